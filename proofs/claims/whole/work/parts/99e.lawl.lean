/-! the law's loop and its start -/
def lawP : Option Value → gH → Prop := fun v _ => v = some (.int 1)
theorem law_gt {n L : Nat} (hn : n < 2 ^ 30) (hL : L ≤ 4096) (h : ¬ Int32.ofNat L - 8 < nI n) : n + 8 ≤ L := by
  refine Nat.not_lt.mp (fun z => h ?_)
  rw [Int32.lt_iff_toInt_lt, nI_toInt (by omega)]
  have e : (Int32.ofNat L - 8).toInt = (L : Int) - 8 := by
    rcases Nat.lt_or_ge L 8 with q | q
    · have : L = 0 ∨ L = 1 ∨ L = 2 ∨ L = 3 ∨ L = 4 ∨ L = 5 ∨ L = 6 ∨ L = 7 := by omega
      rcases this with rfl | rfl | rfl | rfl | rfl | rfl | rfl | rfl <;> decide
    · have e1 : Int32.ofNat L - 8 = nI (L - 8) := nI_sb (b := 8) q
      rw [e1, nI_toInt (by omega)]
      omega
  rw [e]
  omega
theorem law_loop {l : Launch} {b L x o : Nat} {xs : Nat → Int32} (hL : L ≤ 4096) : ∀ (m n : Nat) (σ : gH) (A : aA), LW σ x o A A → Inv A → L ≤ n + 8 * m → n ≤ 8200 → GC (sX b L xs) l mL_law 20 (8 * m) (60 * m) lawP σ 18 [some (.ref b), some (.ref x), some (.ref o), some (.int (nI n))] [] := by
  intro m
  induction m with
  | zero =>
    intro n σ A hW hI h1 h2
    refine gk_iload_n (i := 3) dL_law_18 rfl rfl ?_
    refine gk_aload_n (i := 0) dL_law_19 rfl rfl ?_
    refine gk_alen dL_law_20 (trivial) (by decide) rfl ?_
    refine gk_bipush (v := 8) dL_law_21 (by decide) ?_
    refine gk_isub dL_law_23 ?_
    refine gk_icmp_gt (tgt := 1420) dL_law_24 (by decide) (fun zc24 => ?_) (fun zc24 => ?_)
    · refine gk_iconst (v := 1) dL_law_1420 (by decide) ?_
      refine gk_zret dL_law_1421 rfl (rfl) ?_
      exact rfl
    · exfalso
      have := law_gt (by omega) hL zc24
      omega
  | succ m ih =>
    intro n σ A hW hI h1 h2
    have kk : n + 8 ≤ L → ∀ σ' A', LW σ' x o A' A' → Inv A' → GC (sX b L xs) l mL_law 20 (8 * m) (60 * m) lawP σ' 1414 [some (.ref b), some (.ref x), some (.ref o), some (.int (nI n))] [] := by
      intro hn σ A hW hI
      refine gk_iinc (v := _ + 8) (ls' := [_, _, _, _]) dL_law_1414 rfl rfl (by decide) rfl rfl ?_
      rw [show nI n + 8 = nI (n + 8) from nI_add n 8]
      refine gk_goto (tgt := 18) dL_law_1417 (by decide) ?_
      exact ih (n + 8) σ A hW hI (by omega) (by omega)
    refine gk_iload_n (i := 3) dL_law_18 rfl rfl ?_
    refine gk_aload_n (i := 0) dL_law_19 rfl rfl ?_
    refine gk_alen dL_law_20 (trivial) (by decide) rfl ?_
    refine gk_bipush (v := 8) dL_law_21 (by decide) ?_
    refine gk_isub dL_law_23 ?_
    refine gk_icmp_gt (tgt := 1420) dL_law_24 (by decide) (fun zc24 => ?_) (fun zc24 => ?_)
    · refine gk_bud (bc' := 0) (bs' := 0) (by omega) (by omega) ?_
      refine gk_iconst (v := 1) dL_law_1420 (by decide) ?_
      refine gk_zret dL_law_1421 rfl (rfl) ?_
      exact rfl
    · rw [show 8 * (m + 1) = 8 * m + 8 by omega, show 60 * (m + 1) = 60 * m + 60 by omega]
      have hn := law_gt (by omega) hL zc24
      have hx := LX_of hn hL
      have hx0 := hx.1
      have kk := kk hn
      refine gk_aload_n (i := 0) dL_law_27 rfl rfl ?_
      refine gk_iload_n (i := 3) dL_law_28 rfl rfl ?_
      refine gk_iald dL_law_29 (trivial) (hx0) ?_
      refine gk_bipush (v := 31) dL_law_30 (by decide) ?_
      refine gk_iand dL_law_32 ?_
      generalize xs (nI n).toNatClampNeg &&& 31 = kc
      by_cases e33_0 : kc = 0
      · refine gk_tbIn (c := 0) (tgt := 140) e33_0 dL_law_33 (by decide) (by decide) rfl (by decide) ?_
        exact law_c0 hW hI hx kk
      by_cases e33_1 : kc = 1
      · refine gk_tbIn (c := 1) (tgt := 163) e33_1 dL_law_33 (by decide) (by decide) rfl (by decide) ?_
        exact law_c1 hW hI hx kk
      by_cases e33_2 : kc = 2
      · refine gk_tbIn (c := 2) (tgt := 246) e33_2 dL_law_33 (by decide) (by decide) rfl (by decide) ?_
        exact law_c2 hW hI hx kk
      by_cases e33_3 : kc = 3
      · refine gk_tbIn (c := 3) (tgt := 329) e33_3 dL_law_33 (by decide) (by decide) rfl (by decide) ?_
        exact law_c3 hW hI hx kk
      by_cases e33_4 : kc = 4
      · refine gk_tbIn (c := 4) (tgt := 342) e33_4 dL_law_33 (by decide) (by decide) rfl (by decide) ?_
        exact law_c4 hW hI hx kk
      by_cases e33_5 : kc = 5
      · refine gk_tbIn (c := 5) (tgt := 365) e33_5 dL_law_33 (by decide) (by decide) rfl (by decide) ?_
        exact law_c5 hW hI hx kk
      by_cases e33_6 : kc = 6
      · refine gk_tbIn (c := 6) (tgt := 409) e33_6 dL_law_33 (by decide) (by decide) rfl (by decide) ?_
        exact law_c6 hW hI hx kk
      by_cases e33_7 : kc = 7
      · refine gk_tbIn (c := 7) (tgt := 432) e33_7 dL_law_33 (by decide) (by decide) rfl (by decide) ?_
        exact law_c7 hW hI hx kk
      by_cases e33_8 : kc = 8
      · refine gk_tbIn (c := 8) (tgt := 455) e33_8 dL_law_33 (by decide) (by decide) rfl (by decide) ?_
        exact law_c8 hW hI hx kk
      by_cases e33_9 : kc = 9
      · refine gk_tbIn (c := 9) (tgt := 488) e33_9 dL_law_33 (by decide) (by decide) rfl (by decide) ?_
        exact law_c9 hW hI hx kk
      by_cases e33_10 : kc = 10
      · refine gk_tbIn (c := 10) (tgt := 552) e33_10 dL_law_33 (by decide) (by decide) rfl (by decide) ?_
        exact law_c10 hW hI hx kk
      by_cases e33_11 : kc = 11
      · refine gk_tbIn (c := 11) (tgt := 626) e33_11 dL_law_33 (by decide) (by decide) rfl (by decide) ?_
        exact law_c11 hW hI hx kk
      by_cases e33_12 : kc = 12
      · refine gk_tbIn (c := 12) (tgt := 709) e33_12 dL_law_33 (by decide) (by decide) rfl (by decide) ?_
        exact law_c12 hW hI hx kk
      by_cases e33_13 : kc = 13
      · refine gk_tbIn (c := 13) (tgt := 837) e33_13 dL_law_33 (by decide) (by decide) rfl (by decide) ?_
        exact law_c13 hW hI hx kk
      by_cases e33_14 : kc = 14
      · refine gk_tbIn (c := 14) (tgt := 911) e33_14 dL_law_33 (by decide) (by decide) rfl (by decide) ?_
        exact law_c14 hW hI hx kk
      by_cases e33_15 : kc = 15
      · refine gk_tbIn (c := 15) (tgt := 1038) e33_15 dL_law_33 (by decide) (by decide) rfl (by decide) ?_
        exact law_c15 hW hI hx kk
      by_cases e33_16 : kc = 16
      · refine gk_tbIn (c := 16) (tgt := 1102) e33_16 dL_law_33 (by decide) (by decide) rfl (by decide) ?_
        exact law_c16 hW hI hx kk
      by_cases e33_17 : kc = 17
      · refine gk_tbIn (c := 17) (tgt := 1166) e33_17 dL_law_33 (by decide) (by decide) rfl (by decide) ?_
        exact law_c17 hW hI hx kk
      by_cases e33_18 : kc = 18
      · refine gk_tbIn (c := 18) (tgt := 1249) e33_18 dL_law_33 (by decide) (by decide) rfl (by decide) ?_
        exact law_c18 hW hI hx kk
      by_cases e33_19 : kc = 19
      · refine gk_tbIn (c := 19) (tgt := 1272) e33_19 dL_law_33 (by decide) (by decide) rfl (by decide) ?_
        exact law_c19 hW hI hx kk
      by_cases e33_20 : kc = 20
      · refine gk_tbIn (c := 20) (tgt := 1285) e33_20 dL_law_33 (by decide) (by decide) rfl (by decide) ?_
        exact law_c20 hW hI hx kk
      by_cases e33_21 : kc = 21
      · refine gk_tbIn (c := 21) (tgt := 1338) e33_21 dL_law_33 (by decide) (by decide) rfl (by decide) ?_
        exact law_c21 hW hI hx kk
      by_cases e33_22 : kc = 22
      · refine gk_tbIn (c := 22) (tgt := 1361) e33_22 dL_law_33 (by decide) (by decide) rfl (by decide) ?_
        exact law_c22 hW hI hx kk
      refine gk_tbOut (tgt := 1414) dL_law_33 (g_out 0 22 (by intro i h1 h2; (rcases (show i = 0 ∨ i = 1 ∨ i = 2 ∨ i = 3 ∨ i = 4 ∨ i = 5 ∨ i = 6 ∨ i = 7 ∨ i = 8 ∨ i = 9 ∨ i = 10 ∨ i = 11 ∨ i = 12 ∨ i = 13 ∨ i = 14 ∨ i = 15 ∨ i = 16 ∨ i = 17 ∨ i = 18 ∨ i = 19 ∨ i = 20 ∨ i = 21 ∨ i = 22 by omega) with rfl | rfl | rfl | rfl | rfl | rfl | rfl | rfl | rfl | rfl | rfl | rfl | rfl | rfl | rfl | rfl | rfl | rfl | rfl | rfl | rfl | rfl | rfl) <;> simp_all)) (by decide) ?_
      exact gk_bud (by omega) (by omega) (kk σ A hW hI)
theorem law_G {l : Launch} {b L : Nat} {xs : Nat → Int32} (hL : L ≤ 4096) : GC (sX b L xs) l mL_law 20 4200 50000 lawP (fun _ => none) 0 [some (.ref b), none, none, none] [] := by
  refine gk_new dL_law_0 nwL_7 (by decide) (by decide) (fun zq0 zhq0 => ?_)
  refine gk_dup dL_law_3 rfl ?_
  refine lwI0 (by decide) (by decide) (Nat.le_of_ble_eq_true rfl) (fun σ₁ hR => ?_)
  refine gk_astore_n (i := 1) (ls' := [_, _, _, _]) dL_law_7 rfl (by decide) rfl rfl ?_
  refine gk_new dL_law_8 nwL_10 (by decide) (by decide) (fun zq8 zhq8 => ?_)
  refine gk_dup dL_law_11 rfl ?_
  refine lwI1 hR zhq8 (by decide) (by decide) (Nat.le_of_ble_eq_true rfl) (fun σ hW => ?_)
  refine gk_astore_n (i := 2) (ls' := [_, _, _, _]) dL_law_15 rfl (by decide) rfl rfl ?_
  refine gk_iconst (v := 0) dL_law_16 (by decide) ?_
  refine gk_istore_n (i := 3) (ls' := [_, _, _, _]) dL_law_17 rfl (by decide) rfl rfl ?_
  exact gk_bud (by decide) (by decide) (law_loop hL 512 0 σ A0 hW Inv_0 (by omega) (by omega))
