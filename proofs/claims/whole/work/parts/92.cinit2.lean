/-! the class's constructor -/
def A0 : aA := ([], mPr0, fun _ => 0, fun _ => (0, []), [], 0)
def XL (σ : gH) (ow : Nat → Nat) (x : Nat) (obj : gC) (L : List (Nat × Nat × gC)) : Prop := Pt σ ow x 0 obj ∧ ∀ t ∈ L, Pt σ ow t.1 t.2.1 t.2.2 ∧ t.2.1 ≠ 0
theorem XL.new {σ : gH} {ow : Nat → Nat} {x : Nat} {obj : gC} {L : List (Nat × Nat × gC)} (h : XL σ ow x obj L) {z : Nat} (hz : σ z = none) {n : Nat} (hn : n ≠ 0) (c : gC) : XL (su σ z c) (va_up ow z n) x obj ((z, n, c) :: L) := by
  have hs : Sm (fun _ => False) σ ow (su σ z c) (va_up ow z n) := Sm.none hz c n
  refine ⟨h.1.mono hs (fun z => z), fun t ht => ?_⟩
  rcases List.mem_cons.mp ht with e | ht
  · subst e
    exact ⟨Pt.new _ _ _ _ _, hn⟩
  · exact ⟨(h.2 t ht).1.mono hs (fun z => z), (h.2 t ht).2⟩
theorem XL.put {σ : gH} {ow : Nat → Nat} {x : Nat} {obj : gC} {L : List (Nat × Nat × gC)} (h : XL σ ow x obj L) (obj' : gC) : XL (su σ x obj') ow x obj' L := ⟨h.1.up obj', fun t ht => ⟨(h.2 t ht).1.mono (h.1.sm obj') (h.2 t ht).2, (h.2 t ht).2⟩⟩
theorem XL.cell {σ : gH} {ow : Nat → Nat} {x : Nat} {obj : gC} {a n : Nat} {c0 : gC} {L : List (Nat × Nat × gC)} (h : XL σ ow x obj L) (hp : Pt σ ow a n c0) (hn : n ≠ 0) (L' : List (Nat × Nat × gC)) (hL : ∀ t ∈ L', t ∈ L ∧ t.2.1 ≠ n) (c : gC) : XL (su σ a c) ow x obj ((a, n, c) :: L') := by
  refine ⟨h.1.mono (hp.sm c) (fun e => hn e.symm), fun t ht => ?_⟩
  rcases List.mem_cons.mp ht with e | ht
  · subst e
    exact ⟨hp.up c, hn⟩
  · obtain ⟨q1, q2⟩ := hL t ht
    exact ⟨(h.2 t q1).1.mono (hp.sm c) q2, (h.2 t q1).2⟩
theorem XL.sm {σ σ' : gH} {ow ow' : Nat → Nat} {x : Nat} {obj : gC} {L L' : List (Nat × Nat × gC)} {n : Nat} (h : XL σ ow x obj L) (hs : Sm (fun m => m = n) σ ow σ' ow') (hn : n ≠ 0) (hL : ∀ t ∈ L', t ∈ L ∧ t.2.1 ≠ n) : XL σ' ow' x obj L' := ⟨h.1.mono hs (fun e => hn e.symm), fun t ht => ⟨(h.2 t (hL t ht).1).1.mono hs (hL t ht).2, (h.2 t (hL t ht).1).2⟩⟩
def KX (σ : gH) (ow : Nat → Nat) (x : Nat) (ad : Nat → Nat) (hf : Nat → Option Nat) : Prop := Pt σ ow x 0 (xO ad 0 0) ∧ Pt σ ow (ad 1) 1 (gAq (.object RX3) 60 (fun _ => none)) ∧ PrT σ ow (ad 2) mPr0 ∧ TlT σ ow (ad 3) (fun _ => 0) ∧ Pt σ ow (ad 4) 4 (gAq (.object RX5) 8 hf) ∧ HoC σ ow (ad 5) (0, []) ∧ HiC σ ow (ad 6) [] ∧ SeC σ ow (ad 8) ∧ MaT σ ow (ad 9)
theorem KX.rc {σ : gH} {ow : Nat → Nat} {x : Nat} {ad : Nat → Nat} {hf : Nat → Option Nat} (h : KX σ ow x ad hf) (hh : ∀ i, i < 8 → hf i = some (ad 5)) : RC σ x A0 := by
  obtain ⟨h1, h2, h3, h4, h5, h6, h7, h8, h9⟩ := h
  exact ⟨ow, ad, fun _ => ad 5, [], fun _ => none, h1, ⟨h2, Nat.zero_le _, fun f _ b hb => (by cases hb), fun f hf => absurd hf (Nat.not_lt_zero _)⟩, h3, h4, ⟨hf, h5, fun i hi => ⟨hh i hi, h6⟩⟩, h6, ⟨h7, rfl, fun c hc => (by cases hc)⟩, ⟨⟨fun i j _ _ _ => Or.inr rfl, fun i _ c hc => (by cases hc), List.Pairwise.nil⟩, trivial⟩, h8, h9, Nat.zero_le _⟩
theorem KX.up {σ : gH} {ow : Nat → Nat} {x : Nat} {ad : Nat → Nat} {hf : Nat → Option Nat} (h : KX σ ow x ad hf) (hf' : Nat → Option Nat) : KX (su σ (ad 4) (gAq (.object RX5) 8 hf')) ow x ad hf' := by
  obtain ⟨h1, h2, h3, h4, h5, h6, h7, h8, h9⟩ := h
  have hs := h5.sm (gAq (.object RX5) 8 hf')
  exact ⟨h1.mono hs (by decide), h2.mono hs (by decide), h3.mono hs (by decide), h4.mono hs (by decide), h5.up _, h6.mono hs (by decide) (by omega), h7.mono hs (by decide) (by decide) (by decide), h8.mono hs (fun m _ _ _ => by omega), h9.mono hs (by decide)⟩
section CInit2
variable {l : Launch} {τ : gH}
theorem lp_X10_init {x : Nat} {ow ad : Nat → Nat} : ∀ (n i : Nat) (σ : gH) (hf : Nat → Option Nat), i + n = 8 → KX σ ow x ad hf → (∀ j, j < i → hf j = some (ad 5)) → ∀ bc bs, G l mX10_init 2 bc bs (pV fun σ' => RC σ' x A0) σ 98 [some (.ref x), some (.int (nI i))] [] := by
  intro n
  induction n with
  | zero =>
    intro i σ hf hi hK hh bc bs
    obtain rfl : i = 8 := by omega
    refine g_iload_n (i := 1) dX10_init_98 rfl rfl ?_
    refine g_bipush (v := 8) dX10_init_99 (by decide) ?_
    refine g_icmp_ge (tgt := 120) dX10_init_101 (by decide) (fun zc101 => ?_) (fun zc101 => ?_)
    · refine g_vret dX10_init_120 rfl ?_
      exact ⟨rfl, hK.rc hh⟩
    · exact absurd (nI_le (Nat.le_refl 8) (by omega)) zc101
  | succ n ih =>
    intro i σ hf hi hK hh bc bs
    have hic : (nI i).toNatClampNeg = i := nI_clamp (by omega)
    obtain ⟨sk, sy, c, n', g, p5, -⟩ := hK.2.2.2.2.2.1
    refine g_iload_n (i := 1) dX10_init_98 rfl rfl ?_
    refine g_bipush (v := 8) dX10_init_99 (by decide) ?_
    refine g_icmp_ge (tgt := 120) dX10_init_101 (by decide) (fun zc101 => ?_) (fun zc101 => ?_)
    · exact absurd zc101 (nI_ge (b := 8) (by omega) (by omega))
    · refine g_aload_n (i := 0) dX10_init_104 rfl rfl ?_
      refine g_getf dX10_init_105 flX10_25 (by first | exact hK.1.1 | exact hK.2.2.2.2.1.1) rfl ?_
      refine g_iload_n (i := 1) dX10_init_108 rfl rfl ?_
      refine g_aload_n (i := 0) dX10_init_109 rfl rfl ?_
      refine g_getf dX10_init_110 flX10_32 (by first | exact hK.1.1 | exact hK.2.2.2.2.1.1) rfl ?_
      refine g_aast dX10_init_113 (by first | exact hK.1.1 | exact hK.2.2.2.2.1.1) (by decide) (p5.1) rfl ((vp_in_nI (show i < 8 by omega) (by decide) : vp_in (nI i) 8)) ?_
      refine g_iinc (v := _ + 1) (ls' := [_, _]) dX10_init_114 rfl rfl (by decide) rfl rfl ?_
      refine g_goto (tgt := 98) dX10_init_117 (by decide) ?_
      rw [hic]
      refine g_cl (by rw [nI_1]) (ih (i + 1) _ _ (by omega) (hK.up _) (fun j hj => ?_) _ _)
      by_cases e : j = i
      · subst e
        exact va_up_self _ _ _
      · rw [va_up_ne _ _ e]
        exact hh j (by omega)
theorem c_X10_init {x : Nat} (h0 : τ x = some (gO 8 [.null, .int 0, .null, .null, .null, .null, .null, .null, .int 0, .null])) : Ct l mX10_init 2 23 1805 [.ref x] τ (pV fun σ' => RC σ' x A0) := by
  have hX : XL τ (fun _ => 0) x (gO 8 [.null, .int 0, .null, .null, .null, .null, .null, .null, .int 0, .null]) [] := ⟨⟨h0, rfl⟩, fun t ht => by cases ht⟩
  refine Ct_of moX10_init [some (.ref x), none] rfl (Nat.le_of_ble_eq_true rfl) ?_
  refine g_aload_n (i := 0) dX10_init_0 rfl rfl ?_
  refine g_objInit dX10_init_1 lkX10_1 oi_inst oi_code (by decide) (Nat.le_of_ble_eq_true rfl) ?_
  refine g_aload_n (i := 0) dX10_init_4 rfl rfl ?_
  refine g_bipush (v := 60) dX10_init_5 (by decide) ?_
  refine g_newq dX10_init_7 clX10_9 (fun U h => h.2.1) (by decide) (by decide) rfl (by decide) (by decide) (by decide) (fun zq7 zhq7 => ?_)
  have hX := hX.new zhq7 (n := 1) (by decide) (gAq (.object RX3) 60 (fun _ => none))
  refine g_putF (fs' := [_, _, _, _, _, _, _, _, _, _]) dX10_init_10 flX10_11 fp8_0 rfl rfl (hX.1.1) rfl rfl (Nat.le_of_ble_eq_true rfl) rfl fLX10_11 ?_
  have hX := hX.put (gO 8 [.ref zq7, .int 0, .null, .null, .null, .null, .null, .null, .int 0, .null])
  refine g_aload_n (i := 0) dX10_init_13 rfl rfl ?_
  refine g_bipush (v := 13) dX10_init_14 (by decide) ?_
  refine g_newi dX10_init_16 ac_int (by decide) rfl (by decide) (by decide) (by decide) (fun zq16 zhq16 => ?_)
  have hX := hX.new zhq16 (n := 2) (by decide) (gAi 13 (fun _ => 0))
  refine g_putF (fs' := [_, _, _, _, _, _, _, _, _, _]) dX10_init_18 flX10_15 fp8_2 rfl rfl (hX.1.1) rfl rfl (Nat.le_of_ble_eq_true rfl) rfl fLX10_15 ?_
  have hX := hX.put (gO 8 [.ref zq7, .int 0, .ref zq16, .null, .null, .null, .null, .null, .int 0, .null])
  refine g_aload_n (i := 0) dX10_init_21 rfl rfl ?_
  refine g_iconst (v := 4) dX10_init_22 (by decide) ?_
  refine g_newl dX10_init_23 ac_long (by decide) rfl (by decide) (by decide) (by decide) (fun zq23 zhq23 => ?_)
  have hX := hX.new zhq23 (n := 3) (by decide) (gAl 4 (fun _ => 0))
  refine g_putF (fs' := [_, _, _, _, _, _, _, _, _, _]) dX10_init_25 flX10_19 fp8_3 rfl rfl (hX.1.1) rfl rfl (Nat.le_of_ble_eq_true rfl) rfl fLX10_19 ?_
  have hX := hX.put (gO 8 [.ref zq7, .int 0, .ref zq16, .ref zq23, .null, .null, .null, .null, .int 0, .null])
  refine g_aload_n (i := 0) dX10_init_28 rfl rfl ?_
  refine g_bipush (v := 8) dX10_init_29 (by decide) ?_
  refine g_newq dX10_init_31 clX10_23 (fun U h => h.2.2.1) (by decide) (by decide) rfl (by decide) (by decide) (by decide) (fun zq31 zhq31 => ?_)
  have hX := hX.new zhq31 (n := 4) (by decide) (gAq (.object RX5) 8 (fun _ => none))
  refine g_putF (fs' := [_, _, _, _, _, _, _, _, _, _]) dX10_init_34 flX10_25 fp8_4 rfl rfl (hX.1.1) rfl rfl (Nat.le_of_ble_eq_true rfl) rfl fLX10_25 ?_
  have hX := hX.put (gO 8 [.ref zq7, .int 0, .ref zq16, .ref zq23, .ref zq31, .null, .null, .null, .int 0, .null])
  refine g_aload_n (i := 0) dX10_init_37 rfl rfl ?_
  refine g_new dX10_init_38 nwX10_23 (by decide) (by decide) (fun zq38 zhq38 => ?_)
  have hX := hX.new zhq38 (n := 50) (by decide) (gO 4 [.int 0, .int 0, .long 0, .null])
  refine g_dup dX10_init_41 rfl ?_
  refine g_iconst (v := 0) dX10_init_42 (by decide) ?_
  refine g_iconst (v := 0) dX10_init_43 (by decide) ?_
  refine g_lconst (v := 0) dX10_init_44 (by decide) ?_
  refine g_iconst (v := 0) dX10_init_45 (by decide) ?_
  refine g_callIv (My := mX5_init) [_, _, _, _] dX10_init_46 lkX10_29 mvX5_init rfl (c_X5_init (su_self _ _ _) 0 0 0 (n := 0) (by decide)) (by decide) (by decide) (by decide) rfl (Nat.le_of_ble_eq_true rfl) (fun σ zh46 => ?_)
  obtain ⟨c5, hc5, ze46⟩ := zh46
  rw [ze46]
  have hX := hX.new hc5 (n := 1000 + zq38) (by omega) (gAl 0 (fun _ => 0))
  have hX := hX.cell (a := zq38) (n := 50) (c0 := gO 4 [.int 0, .int 0, .long 0, .null]) (hX.2 (zq38, 50, _) (by simp)).1 (by decide) [(c5, 1000 + zq38, gAl 0 (fun _ => 0)), (zq31, 4, gAq (.object RX5) 8 (fun _ => none)), (zq23, 3, gAl 4 (fun _ => 0)), (zq16, 2, gAi 13 (fun _ => 0)), (zq7, 1, gAq (.object RX3) 60 (fun _ => none))] (by simp; omega) (gO 4 [.int 0, .int 0, .long 0, .ref c5])
  refine g_putF (fs' := [_, _, _, _, _, _, _, _, _, _]) dX10_init_49 flX10_32 fp8_5 rfl rfl (hX.1.1) rfl rfl (Nat.le_of_ble_eq_true rfl) rfl fLX10_32 ?_
  have hX := hX.put (gO 8 [.ref zq7, .int 0, .ref zq16, .ref zq23, .ref zq31, .ref zq38, .null, .null, .int 0, .null])
  refine g_aload_n (i := 0) dX10_init_52 rfl rfl ?_
  refine g_new dX10_init_53 nwX10_36 (by decide) (by decide) (fun zq53 zhq53 => ?_)
  have hX := hX.new zhq53 (n := 6) (by decide) (gO 3 [.null, .int 0])
  refine g_dup dX10_init_56 rfl ?_
  refine g_callIv (My := mX4_init) [] dX10_init_57 lkX10_38 mvX4_init rfl (c_X4_init (su_self _ _ _)) (by decide) (by decide) (by decide) rfl (Nat.le_of_ble_eq_true rfl) (fun σ zh57 => ?_)
  obtain ⟨c6, hc6, ze57⟩ := zh57
  rw [ze57]
  have hX := hX.new hc6 (n := 7) (by decide) (gAq (.object RX0) 50 (fun _ => none))
  have hX := hX.cell (a := zq53) (n := 6) (c0 := gO 3 [.null, .int 0]) (hX.2 (zq53, 6, _) (by simp)).1 (by decide) [(c6, 7, gAq (.object RX0) 50 (fun _ => none)), (zq38, 50, gO 4 [.int 0, .int 0, .long 0, .ref c5]), (c5, 1000 + zq38, gAl 0 (fun _ => 0)), (zq31, 4, gAq (.object RX5) 8 (fun _ => none)), (zq23, 3, gAl 4 (fun _ => 0)), (zq16, 2, gAi 13 (fun _ => 0)), (zq7, 1, gAq (.object RX3) 60 (fun _ => none))] (by simp; omega) (gO 3 [.ref c6, .int 0])
  refine g_putF (fs' := [_, _, _, _, _, _, _, _, _, _]) dX10_init_60 flX10_39 fp8_6 rfl rfl (hX.1.1) rfl rfl (Nat.le_of_ble_eq_true rfl) rfl fLX10_39 ?_
  have hX := hX.put (gO 8 [.ref zq7, .int 0, .ref zq16, .ref zq23, .ref zq31, .ref zq38, .ref zq53, .null, .int 0, .null])
  refine g_aload_n (i := 0) dX10_init_63 rfl rfl ?_
  refine g_new dX10_init_64 nwX10_43 (by decide) (by decide) (fun zq64 zhq64 => ?_)
  have hX := hX.new zhq64 (n := 8) (by decide) (gO 6 [.null, .int 0, .null, .null, .null, .int 0, .null, .null, .null, .null, .null, .int 0, .int 0, .null])
  refine g_dup dX10_init_67 rfl ?_
  refine g_callIv (My := mX8_init) [] dX10_init_68 lkX10_45 mvX8_init rfl (c_X8_init (hX.2 (zq64, 8, _) List.mem_cons_self).1) (by decide) (by decide) (by decide) rfl (Nat.le_of_ble_eq_true rfl) (fun σ zh68 => ?_)
  obtain ⟨ow8, hs8, hC⟩ := zh68
  have hX := hX.sm (L' := [(zq53, 6, gO 3 [.ref c6, .int 0]), (c6, 7, gAq (.object RX0) 50 (fun _ => none)), (zq38, 50, gO 4 [.int 0, .int 0, .long 0, .ref c5]), (c5, 1000 + zq38, gAl 0 (fun _ => 0)), (zq31, 4, gAq (.object RX5) 8 (fun _ => none)), (zq23, 3, gAl 4 (fun _ => 0)), (zq16, 2, gAi 13 (fun _ => 0)), (zq7, 1, gAq (.object RX3) 60 (fun _ => none))]) hs8 (by decide) (by simp; omega)
  refine g_putF (fs' := [_, _, _, _, _, _, _, _, _, _]) dX10_init_71 flX10_46 fp8_7 rfl rfl (hX.1.1) rfl rfl (Nat.le_of_ble_eq_true rfl) rfl fLX10_46 ?_
  have hC := hC.mono (hX.1.sm (gO 8 [.ref zq7, .int 0, .ref zq16, .ref zq23, .ref zq31, .ref zq38, .ref zq53, .ref zq64, .int 0, .null])) (fun m _ _ _ => by omega)
  have hX := hX.put (gO 8 [.ref zq7, .int 0, .ref zq16, .ref zq23, .ref zq31, .ref zq38, .ref zq53, .ref zq64, .int 0, .null])
  refine g_aload_n (i := 0) dX10_init_74 rfl rfl ?_
  refine g_bipush (v := 13) dX10_init_75 (by decide) ?_
  refine g_newl dX10_init_77 ac_long (by decide) rfl (by decide) (by decide) (by decide) (fun zq77 zhq77 => ?_)
  have hC := hC.mono (Sm.none (ow := ow8) zhq77 (gAl 13 (fun _ => 0)) 9) (fun m _ _ _ z => z)
  have hX := hX.new zhq77 (n := 9) (by decide) (gAl 13 (fun _ => 0))
  refine g_putF (fs' := [_, _, _, _, _, _, _, _, _, _]) dX10_init_79 flX10_50 fp8_9 rfl rfl (hX.1.1) rfl rfl (Nat.le_of_ble_eq_true rfl) rfl fLX10_50 ?_
  have hC := hC.mono (hX.1.sm (gO 8 [.ref zq7, .int 0, .ref zq16, .ref zq23, .ref zq31, .ref zq38, .ref zq53, .ref zq64, .int 0, .ref zq77])) (fun m _ _ _ => by omega)
  have hX := hX.put (gO 8 [.ref zq7, .int 0, .ref zq16, .ref zq23, .ref zq31, .ref zq38, .ref zq53, .ref zq64, .int 0, .ref zq77])
  have p2 : Pt _ _ zq16 2 (gAi 13 (fun _ => 0)) := (hX.2 (zq16, 2, gAi 13 (fun _ => 0)) (by simp)).1
  refine g_firstp (pa := zq16) rfl hX.1.1 rfl p2.1 (by decide) ?_
  have hC := hC.mono (p2.sm (gAi 13 (va_cpy fpF (fun _ => 0) 0 0 13))) (fun m _ _ _ => by omega)
  have hX := hX.cell p2 (by decide) [(zq77, 9, gAl 13 (fun _ => 0)), (zq53, 6, gO 3 [.ref c6, .int 0]), (c6, 7, gAq (.object RX0) 50 (fun _ => none)), (zq38, 50, gO 4 [.int 0, .int 0, .long 0, .ref c5]), (c5, 1000 + zq38, gAl 0 (fun _ => 0)), (zq31, 4, gAq (.object RX5) 8 (fun _ => none)), (zq23, 3, gAl 4 (fun _ => 0)), (zq7, 1, gAq (.object RX3) 60 (fun _ => none))] (by simp; omega) (gAi 13 (va_cpy fpF (fun _ => 0) 0 0 13))
  refine g_iconst (v := 0) dX10_init_96 (by decide) ?_
  refine g_istore_n (i := 1) (ls' := [_, _]) dX10_init_97 rfl (by decide) rfl rfl ?_
  refine lp_X10_init (ad := fun k => if k = 1 then zq7 else if k = 2 then zq16 else if k = 3 then zq23 else if k = 4 then zq31 else if k = 5 then zq38 else if k = 6 then zq53 else if k = 8 then zq64 else zq77) 8 0 _ (fun _ => none) (by omega) ⟨hX.1, (hX.2 (zq7, 1, gAq (.object RX3) 60 (fun _ => none)) (by simp)).1, ⟨_, (hX.2 (zq16, 2, gAi 13 (va_cpy fpF (fun _ => 0) 0 0 13)) (by simp)).1, fun k hk => ?_⟩, ⟨_, (hX.2 (zq23, 3, gAl 4 (fun _ => 0)) (by simp)).1, fun k hk => rfl⟩, (hX.2 (zq31, 4, gAq (.object RX5) 8 (fun _ => none)) (by simp)).1, ⟨0, 0, c5, 0, fun _ => 0, (hX.2 (zq38, 50, gO 4 [.int 0, .int 0, .long 0, .ref c5]) (by simp)).1, (hX.2 (c5, 1000 + zq38, gAl 0 (fun _ => 0)) (by simp)).1, by decide, Or.inr ⟨by decide, rfl, fun i v h => by simp at h⟩⟩, ⟨c6, fun _ => none, (hX.2 (zq53, 6, gO 3 [.ref c6, .int 0]) (by simp)).1, (hX.2 (c6, 7, gAq (.object RX0) 50 (fun _ => none)) (by simp)).1, by decide, fun j c h => by simp at h⟩, hC, ⟨_, (hX.2 (zq77, 9, gAl 13 (fun _ => 0)) (by simp)).1⟩⟩ (fun j hj => absurd hj (by omega)) _ _
  rw [va_cpy, if_pos ⟨Nat.zero_le _, by omega⟩, Nat.zero_add, Nat.sub_zero]
  rfl
end CInit2
