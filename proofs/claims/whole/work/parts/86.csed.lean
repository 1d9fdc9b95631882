/-! the class's search: valueOf, fillUpTo, isRight, keep -/
def TEc (f : Nat → Int64) (q : List Nat) (dq : Nat → Int64) (pr : Nat → Nat) (ac cc : Int32) (I : Nat → Nat → Int32) (J : Nat → Nat → Int64) : Prop := chR f (chL f) cc I J ∧ askR dq q ac J ∧ (∀ k, k < 13 → I 10 k = nI (pr k)) ∧ I 16 0 = ac
def pkR (f : Nat → Int64) (P : List cT) (I : Nat → Nat → Int32) : Prop := ∀ (k : Nat) (t : cT), P[k]? = some t → ∃ c, I 21 k = nI c ∧ (chL f)[c]? = some t
def rwX (f : Nat → Int64) (q : List Nat) (P : List cT) (fl : Nat → Nat) (I : Nat → Nat → Int32) (J : Nat → Nat → Int64) : Prop := fl 0 = q.length ∧ (∀ k, k ≤ P.length → I 16 k = nI (fl k) ∧ fl k ≤ q.length ∧ ∀ i v, i < fl k → q[i]? = some v → J (13 + k) i = opA 8 (P.map (stT f)) (lN v) k k) ∧ ∀ k, k < P.length → fl (k + 1) ≤ fl k
def noF (I I' : Nat → Nat → Int32) (J J' : Nat → Nat → Int64) : Prop := (∀ k, k ≠ 16 → I' k = I k) ∧ (∀ k, ¬ (k = 14 ∨ k = 15) → J' k = J k) ∧ I' 16 0 = I 16 0
theorem noF.rf (I : Nat → Nat → Int32) (J : Nat → Nat → Int64) : noF I I J J := ⟨fun _ _ => rfl, fun _ _ => rfl, rfl⟩
theorem noF.tr {I I' I'' : Nat → Nat → Int32} {J J' J'' : Nat → Nat → Int64} (h : noF I I' J J') (h' : noF I' I'' J' J'') : noF I I'' J J'' := ⟨fun k hk => (h'.1 k hk).trans (h.1 k hk), fun k hk => (h'.2.1 k hk).trans (h.2.1 k hk), h'.2.2.trans h.2.2⟩
theorem TEc.noF {f : Nat → Int64} {q : List Nat} {dq : Nat → Int64} {pr : Nat → Nat} {ac cc : Int32} {I I' : Nat → Nat → Int32} {J J' : Nat → Nat → Int64} (h : TEc f q dq pr ac cc I J) (e : noF I I' J J') : TEc f q dq pr ac cc I' J' := by
  obtain ⟨⟨h1, h2, h3⟩, ⟨h4, h5, h6⟩, h7, h8⟩ := h
  refine ⟨⟨h1, h2, fun i t ht => ?_⟩, ⟨h4, h5, fun i v hv => ?_⟩, fun k hk => ?_, ?_⟩
  · rw [e.1 17 (by decide), e.1 18 (by decide), e.1 20 (by decide), e.2.1 19 (by decide)]
    exact h3 i t ht
  · rw [e.2.1 13 (by decide), e.2.1 11 (by decide)]
    exact h6 i v hv
  · rw [e.1 10 (by decide)]
    exact h7 k hk
  · rw [e.2.2]
    exact h8
theorem pkR.eq {f : Nat → Int64} {P : List cT} {I I' : Nat → Nat → Int32} (h : pkR f P I) (e : I' 21 = I 21) : pkR f P I' := fun k t ht => by
  rw [e]
  exact h k t ht
theorem ch8 {f : Nat → Int64} {t : cT} (h : ¬ isOp (stT f t).1) : uN (stT f t).2.2 < 2 ^ 8 := mkS_y h
theorem op8P (f : Nat → Int64) (P : List cT) (v : Int64) (k i : Nat) : uN (opA 8 (P.map (stT f)) v k i) < 256 := by
  refine opA_lt (N := 8) (Or.inl rfl) (fun s hs => ?_) v k i
  obtain ⟨t, _, rfl⟩ := List.mem_map.mp hs
  exact ch8
theorem rwX.mn {f : Nat → Int64} {q : List Nat} {P : List cT} {fl : Nat → Nat} {I : Nat → Nat → Int32} {J : Nat → Nat → Int64} (h : rwX f q P fl I J) : ∀ (n j : Nat), j + n ≤ P.length → fl (j + n) ≤ fl j := by
  intro n
  induction n with
  | zero => intro j _; exact Nat.le_refl _
  | succ n ih =>
    intro j hj
    exact Nat.le_trans (h.2.2 (j + n) (by omega)) (ih j (by omega))
section CSed
variable {l : Launch} {τ : gH} {ow : Nat → Nat} {sr : Nat} {ad : Nat → Nat} {ac cc bc bl : Int32} {I : Nat → Nat → Int32} {J : Nat → Nat → Int64} {f : Nat → Int64} {q : List Nat} {dq : Nat → Int64} {pr : Nat → Nat} {P : List cT} {fl : Nat → Nat}
theorem c_X8_valueOf {σ : gH} (hS : SeX σ ow sr ad (ac, cc, bc, bl) I J) (hc : chR f (chL f) cc I J) {c : Nat} {t : cT} (ht : (chL f)[c]? = some t) {i : Nat} (hi : i < 256) (hX : uN (J (13 + t.2.1) i) < 256) : Ct l mX8_valueOf 4 0 0 [.ref sr, .int (nI c), .int (nI i)] σ (pL fun r σ' => r = mAp (nI t.1) (J (13 + t.2.1) i) (if isOp (nI t.1) then J (13 + t.2.2) i else t8 f t.2.2) 8 ∧ σ' = σ) := by
  have hm := mem_chL (List.mem_of_getElem? ht)
  have hb3 := chL_b3 (List.mem_of_getElem? ht)
  have hcl : c < 144 := by
    have := (List.getElem?_eq_some_iff.mp ht).1
    have := hc.2.1
    omega
  obtain ⟨e17, e18, e19, e20⟩ := hc.2.2 c t ht
  have hcc : (nI c).toNatClampNeg = c := nI_clamp (by omega)
  have hic : (nI i).toNatClampNeg = i := nI_clamp (by omega)
  have hxc : (nI t.2.1).toNatClampNeg = t.2.1 := nI_clamp (by omega)
  have hIc : vp_in (nI c) 144 := vp_in_nI hcl (by decide)
  have hIi : vp_in (nI i) 256 := vp_in_nI hi (by decide)
  have hIx : vp_in (nI t.2.1) 3 := vp_in_nI hb3.1 (by decide)
  have hw8 : ∀ y, bAp 8 (nI t.1) (J (13 + t.2.1) i) y = mAp (nI t.1) (J (13 + t.2.1) i) y 8 := fun y => bAp_eq (N := 8) (Or.inl rfl) rfl (show t.1 ≤ 12 by omega) hX
  by_cases ho : isOp (nI t.1)
  · rw [if_pos ho]
    have hyc : (nI t.2.2).toNatClampNeg = t.2.2 := nI_clamp (by have := hb3.2 ho; omega)
    have ey : (yOfV f (nI t.1) t.2.2).toInt32 = nI t.2.2 := by rw [yOfV, if_pos ho, Int32.toInt32_toInt64]
    have hIy : vp_in (nI t.2.2) 3 := vp_in_nI (hb3.2 ho) (by decide)
    refine Ct_of moX8_valueOf [some (.ref sr), some (.int (nI c)), some (.int (nI i)), none, none, none] rfl (Nat.le_of_ble_eq_true rfl) ?_
    refine g_aload_n (i := 0) dX8_valueOf_0 rfl rfl ?_
    refine g_getf dX8_valueOf_1 flX8_27 (by first | exact hS.1.1 | exact hS.2.1.2.2.1 | exact hS.2.2.2.2.1.1 | exact hS.2.2.2.2.2.1.1 | exact hS.2.2.2.2.2.2.1.1 | exact (hS.2.2.1 _ (hb3.2 ho)).1 | exact (hS.2.2.1 _ hb3.1).1) rfl ?_
    refine g_iload_n (i := 1) dX8_valueOf_4 rfl rfl ?_
    refine g_iald dX8_valueOf_5 (by first | exact hS.1.1 | exact hS.2.1.2.2.1 | exact hS.2.2.2.2.1.1 | exact hS.2.2.2.2.2.1.1 | exact hS.2.2.2.2.2.2.1.1 | exact (hS.2.2.1 _ (hb3.2 ho)).1 | exact (hS.2.2.1 _ hb3.1).1) (by first | exact hIc | exact hIi | exact hIy | exact hIx) ?_
    rw [hcc, e17]
    refine g_istore_n (i := 3) (ls' := [_, _, _, _, _, _]) dX8_valueOf_6 rfl (by decide) rfl rfl ?_
    refine g_aload_n (i := 0) dX8_valueOf_7 rfl rfl ?_
    refine g_getf dX8_valueOf_8 flX8_33 (by first | exact hS.1.1 | exact hS.2.1.2.2.1 | exact hS.2.2.2.2.1.1 | exact hS.2.2.2.2.2.1.1 | exact hS.2.2.2.2.2.2.1.1 | exact (hS.2.2.1 _ (hb3.2 ho)).1 | exact (hS.2.2.1 _ hb3.1).1) rfl ?_
    refine g_iload_n (i := 1) dX8_valueOf_11 rfl rfl ?_
    refine g_lald dX8_valueOf_12 (by first | exact hS.1.1 | exact hS.2.1.2.2.1 | exact hS.2.2.2.2.1.1 | exact hS.2.2.2.2.2.1.1 | exact hS.2.2.2.2.2.2.1.1 | exact (hS.2.2.1 _ (hb3.2 ho)).1 | exact (hS.2.2.1 _ hb3.1).1) (by first | exact hIc | exact hIi | exact hIy | exact hIx) ?_
    rw [hcc, e19]
    refine g_lstore (ls' := [_, _, _, _, _, _]) dX8_valueOf_13 (by decide) rfl rfl ?_
    refine g_iload_n (i := 3) dX8_valueOf_15 rfl rfl ?_
    refine g_callSi (My := mX6_takesOperand) [_] dX8_valueOf_16 lkX8_78 mvX6_takesOperand rfl (c_X6_takesOperand _) (by decide) (by decide) (by decide) rfl (Nat.le_of_ble_eq_true rfl) (fun zr16 σ zh16 => ?_)
    obtain ⟨ze16, zf16⟩ := zh16
    rw [ze16, zf16]
    refine g_if_eq (tgt := 34) dX8_valueOf_19 (by decide) (fun zc19 => ?_) (fun zc19 => ?_)
    · exact absurd ho (bI_eq0.mp zc19)
    · refine g_aload_n (i := 0) dX8_valueOf_22 rfl rfl ?_
      refine g_getf dX8_valueOf_23 flX8_21 (by first | exact hS.1.1 | exact hS.2.1.2.2.1 | exact hS.2.2.2.2.1.1 | exact hS.2.2.2.2.2.1.1 | exact hS.2.2.2.2.2.2.1.1 | exact (hS.2.2.1 _ (hb3.2 ho)).1 | exact (hS.2.2.1 _ hb3.1).1) rfl ?_
      refine g_lload dX8_valueOf_26 rfl ?_
      refine g_l2i dX8_valueOf_28 ?_
      rw [ey]
      refine g_aaldA dX8_valueOf_29 (by first | exact hS.1.1 | exact hS.2.1.2.2.1 | exact hS.2.2.2.2.1.1 | exact hS.2.2.2.2.2.1.1 | exact hS.2.2.2.2.2.2.1.1 | exact (hS.2.2.1 _ (hb3.2 ho)).1 | exact (hS.2.2.1 _ hb3.1).1) (by first | exact hIc | exact hIi | exact hIy | exact hIx) ?_
      refine g_tor (ad (13 + t.2.2)) (by rw [hyc]) ?_
      refine g_iload_n (i := 2) dX8_valueOf_30 rfl rfl ?_
      refine g_lald dX8_valueOf_31 (by first | exact hS.1.1 | exact hS.2.1.2.2.1 | exact hS.2.2.2.2.1.1 | exact hS.2.2.2.2.2.1.1 | exact hS.2.2.2.2.2.2.1.1 | exact (hS.2.2.1 _ (hb3.2 ho)).1 | exact (hS.2.2.1 _ hb3.1).1) (by first | exact hIc | exact hIi | exact hIy | exact hIx) ?_
      rw [hic]
      refine g_lstore (ls' := [_, _, _, _, _, _]) dX8_valueOf_32 (by decide) rfl rfl ?_
      refine g_bipush (v := 8) dX8_valueOf_34 (by decide) ?_
      refine g_iload_n (i := 3) dX8_valueOf_36 rfl rfl ?_
      refine g_aload_n (i := 0) dX8_valueOf_37 rfl rfl ?_
      refine g_getf dX8_valueOf_38 flX8_21 (by first | exact hS.1.1 | exact hS.2.1.2.2.1 | exact hS.2.2.2.2.1.1 | exact hS.2.2.2.2.2.1.1 | exact hS.2.2.2.2.2.2.1.1 | exact (hS.2.2.1 _ (hb3.2 ho)).1 | exact (hS.2.2.1 _ hb3.1).1) rfl ?_
      refine g_aload_n (i := 0) dX8_valueOf_41 rfl rfl ?_
      refine g_getf dX8_valueOf_42 flX8_30 (by first | exact hS.1.1 | exact hS.2.1.2.2.1 | exact hS.2.2.2.2.1.1 | exact hS.2.2.2.2.2.1.1 | exact hS.2.2.2.2.2.2.1.1 | exact (hS.2.2.1 _ (hb3.2 ho)).1 | exact (hS.2.2.1 _ hb3.1).1) rfl ?_
      refine g_iload_n (i := 1) dX8_valueOf_45 rfl rfl ?_
      refine g_iald dX8_valueOf_46 (by first | exact hS.1.1 | exact hS.2.1.2.2.1 | exact hS.2.2.2.2.1.1 | exact hS.2.2.2.2.2.1.1 | exact hS.2.2.2.2.2.2.1.1 | exact (hS.2.2.1 _ (hb3.2 ho)).1 | exact (hS.2.2.1 _ hb3.1).1) (by first | exact hIc | exact hIi | exact hIy | exact hIx) ?_
      rw [hcc, e18]
      refine g_aaldA dX8_valueOf_47 (by first | exact hS.1.1 | exact hS.2.1.2.2.1 | exact hS.2.2.2.2.1.1 | exact hS.2.2.2.2.2.1.1 | exact hS.2.2.2.2.2.2.1.1 | exact (hS.2.2.1 _ (hb3.2 ho)).1 | exact (hS.2.2.1 _ hb3.1).1) (by first | exact hIc | exact hIi | exact hIy | exact hIx) ?_
      refine g_tor (ad (13 + t.2.1)) (by rw [hxc]) ?_
      refine g_iload_n (i := 2) dX8_valueOf_48 rfl rfl ?_
      refine g_lald dX8_valueOf_49 (by first | exact hS.1.1 | exact hS.2.1.2.2.1 | exact hS.2.2.2.2.1.1 | exact hS.2.2.2.2.2.1.1 | exact hS.2.2.2.2.2.2.1.1 | exact (hS.2.2.1 _ (hb3.2 ho)).1 | exact (hS.2.2.1 _ hb3.1).1) (by first | exact hIc | exact hIi | exact hIy | exact hIx) ?_
      rw [hic]
      refine g_lload dX8_valueOf_50 rfl ?_
      refine g_callSl (My := mX6_apply) [_, _, _, _] dX8_valueOf_52 lkX8_125 mvX6_apply rfl (c_X6_apply _ _ _ _) (by decide) (by decide) (by decide) rfl (Nat.le_of_ble_eq_true rfl) (fun zr52 σ zh52 => ?_)
      obtain ⟨ze52, zf52⟩ := zh52
      rw [ze52, zf52]
      refine g_lret dX8_valueOf_55 rfl ?_
      exact ⟨_, rfl, hw8 _, rfl⟩
  · rw [if_neg ho]
    have ey : yOfV f (nI t.1) t.2.2 = t8 f t.2.2 := by rw [yOfV, if_neg ho]
    refine Ct_of moX8_valueOf [some (.ref sr), some (.int (nI c)), some (.int (nI i)), none, none, none] rfl (Nat.le_of_ble_eq_true rfl) ?_
    refine g_aload_n (i := 0) dX8_valueOf_0 rfl rfl ?_
    refine g_getf dX8_valueOf_1 flX8_27 (by first | exact hS.1.1 | exact hS.2.1.2.2.1 | exact hS.2.2.2.2.1.1 | exact hS.2.2.2.2.2.1.1 | exact hS.2.2.2.2.2.2.1.1 | exact (hS.2.2.1 _ hb3.1).1) rfl ?_
    refine g_iload_n (i := 1) dX8_valueOf_4 rfl rfl ?_
    refine g_iald dX8_valueOf_5 (by first | exact hS.1.1 | exact hS.2.1.2.2.1 | exact hS.2.2.2.2.1.1 | exact hS.2.2.2.2.2.1.1 | exact hS.2.2.2.2.2.2.1.1 | exact (hS.2.2.1 _ hb3.1).1) (by first | exact hIc | exact hIi | exact hIx) ?_
    rw [hcc, e17]
    refine g_istore_n (i := 3) (ls' := [_, _, _, _, _, _]) dX8_valueOf_6 rfl (by decide) rfl rfl ?_
    refine g_aload_n (i := 0) dX8_valueOf_7 rfl rfl ?_
    refine g_getf dX8_valueOf_8 flX8_33 (by first | exact hS.1.1 | exact hS.2.1.2.2.1 | exact hS.2.2.2.2.1.1 | exact hS.2.2.2.2.2.1.1 | exact hS.2.2.2.2.2.2.1.1 | exact (hS.2.2.1 _ hb3.1).1) rfl ?_
    refine g_iload_n (i := 1) dX8_valueOf_11 rfl rfl ?_
    refine g_lald dX8_valueOf_12 (by first | exact hS.1.1 | exact hS.2.1.2.2.1 | exact hS.2.2.2.2.1.1 | exact hS.2.2.2.2.2.1.1 | exact hS.2.2.2.2.2.2.1.1 | exact (hS.2.2.1 _ hb3.1).1) (by first | exact hIc | exact hIi | exact hIx) ?_
    rw [hcc, e19, ey]
    refine g_lstore (ls' := [_, _, _, _, _, _]) dX8_valueOf_13 (by decide) rfl rfl ?_
    refine g_iload_n (i := 3) dX8_valueOf_15 rfl rfl ?_
    refine g_callSi (My := mX6_takesOperand) [_] dX8_valueOf_16 lkX8_78 mvX6_takesOperand rfl (c_X6_takesOperand _) (by decide) (by decide) (by decide) rfl (Nat.le_of_ble_eq_true rfl) (fun zr16 σ zh16 => ?_)
    obtain ⟨ze16, zf16⟩ := zh16
    rw [ze16, zf16]
    refine g_if_eq (tgt := 34) dX8_valueOf_19 (by decide) (fun zc19 => ?_) (fun zc19 => ?_)
    · refine g_bipush (v := 8) dX8_valueOf_34 (by decide) ?_
      refine g_iload_n (i := 3) dX8_valueOf_36 rfl rfl ?_
      refine g_aload_n (i := 0) dX8_valueOf_37 rfl rfl ?_
      refine g_getf dX8_valueOf_38 flX8_21 (by first | exact hS.1.1 | exact hS.2.1.2.2.1 | exact hS.2.2.2.2.1.1 | exact hS.2.2.2.2.2.1.1 | exact hS.2.2.2.2.2.2.1.1 | exact (hS.2.2.1 _ hb3.1).1) rfl ?_
      refine g_aload_n (i := 0) dX8_valueOf_41 rfl rfl ?_
      refine g_getf dX8_valueOf_42 flX8_30 (by first | exact hS.1.1 | exact hS.2.1.2.2.1 | exact hS.2.2.2.2.1.1 | exact hS.2.2.2.2.2.1.1 | exact hS.2.2.2.2.2.2.1.1 | exact (hS.2.2.1 _ hb3.1).1) rfl ?_
      refine g_iload_n (i := 1) dX8_valueOf_45 rfl rfl ?_
      refine g_iald dX8_valueOf_46 (by first | exact hS.1.1 | exact hS.2.1.2.2.1 | exact hS.2.2.2.2.1.1 | exact hS.2.2.2.2.2.1.1 | exact hS.2.2.2.2.2.2.1.1 | exact (hS.2.2.1 _ hb3.1).1) (by first | exact hIc | exact hIi | exact hIx) ?_
      rw [hcc, e18]
      refine g_aaldA dX8_valueOf_47 (by first | exact hS.1.1 | exact hS.2.1.2.2.1 | exact hS.2.2.2.2.1.1 | exact hS.2.2.2.2.2.1.1 | exact hS.2.2.2.2.2.2.1.1 | exact (hS.2.2.1 _ hb3.1).1) (by first | exact hIc | exact hIi | exact hIx) ?_
      refine g_tor (ad (13 + t.2.1)) (by rw [hxc]) ?_
      refine g_iload_n (i := 2) dX8_valueOf_48 rfl rfl ?_
      refine g_lald dX8_valueOf_49 (by first | exact hS.1.1 | exact hS.2.1.2.2.1 | exact hS.2.2.2.2.1.1 | exact hS.2.2.2.2.2.1.1 | exact hS.2.2.2.2.2.2.1.1 | exact (hS.2.2.1 _ hb3.1).1) (by first | exact hIc | exact hIi | exact hIx) ?_
      rw [hic]
      refine g_lload dX8_valueOf_50 rfl ?_
      refine g_callSl (My := mX6_apply) [_, _, _, _] dX8_valueOf_52 lkX8_125 mvX6_apply rfl (c_X6_apply _ _ _ _) (by decide) (by decide) (by decide) rfl (Nat.le_of_ble_eq_true rfl) (fun zr52 σ zh52 => ?_)
      obtain ⟨ze52, zf52⟩ := zh52
      rw [ze52, zf52]
      refine g_lret dX8_valueOf_55 rfl ?_
      exact ⟨_, rfl, hw8 _, rfl⟩
    · exact absurd (bI_ne0.mp zc19) ho
/-- what valueOf answers where the rows stand -/
theorem vo_op (hR : rwX f q P fl I J) (hg : gdP f P) {k : Nat} (hk : k ≤ P.length) (hk3 : k < 3) {t : cT} (hgt : gdT f k t) {Q : List cT} (hQ : Q[k]? = some t) (hQP : ∀ j, j ≤ k → ∀ v, opA 8 (Q.map (stT f)) v k j = opA 8 (P.map (stT f)) v j j) {i v : Nat} (hv : q[i]? = some v) (hfl : ∀ j, j ≤ k → i < fl j) : mAp (nI t.1) (J (13 + t.2.1) i) (if isOp (nI t.1) then J (13 + t.2.2) i else t8 f t.2.2) 8 = opA 8 (Q.map (stT f)) (lN v) (k + 1) (k + 1) ∧ uN (J (13 + t.2.1) i) < 256 := by
  have hx := hgt.2.1
  have ex := (hR.2.1 t.2.1 (by omega)).2.2 i v (hfl _ hx) hv
  refine ⟨?_, by rw [ex]; exact op8P _ _ _ _ _⟩
  rw [opA_mk (tl := f) (c := t.1) (x := t.2.1) (y := t.2.2) (by rw [List.getElem?_map, hQ]; rfl) (by omega) (by have := ny_lt hk3 hgt.2.2.1; omega), ex, hQP _ hx]
  by_cases ho : isOp (nI t.1)
  · have hy := ny_op hgt.2.2.1 ho
    rw [if_pos ho, if_pos ho, (hR.2.1 t.2.2 (by omega)).2.2 i v (hfl _ hy) hv, hQP _ hy]
  · rw [if_neg ho, if_neg ho]
end CSed
