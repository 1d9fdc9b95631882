/-! the class's search: prepare -/
def sq (i : Nat) : Nat := (43007 - 167 * i) % 256
theorem sq_eq : ∀ i, i < 256 → ((255 : Int32) - nI i * 167) &&& 255 = nI (sq i) := by decide +kernel
theorem sq_inv : ∀ v, v < 256 → sq ((255 - v) * 23 % 256) = v := by decide +kernel
theorem sq_lt (i : Nat) : sq i < 256 := Nat.mod_lt _ (by decide)
noncomputable def qL (cn : Nat → Prop) : Nat → List Nat
  | 0 => []
  | i + 1 => by
    classical
    exact if cn (sq i) then qL cn i ++ [sq i] else qL cn i
theorem qL_t {cn : Nat → Prop} {i : Nat} (h : cn (sq i)) : qL cn (i + 1) = qL cn i ++ [sq i] := if_pos h
theorem qL_f {cn : Nat → Prop} {i : Nat} (h : ¬ cn (sq i)) : qL cn (i + 1) = qL cn i := if_neg h
theorem qL_len (cn : Nat → Prop) : ∀ i, (qL cn i).length ≤ i := by
  intro i
  induction i with
  | zero => exact Nat.le_refl _
  | succ i ih =>
    by_cases h : cn (sq i)
    · rw [qL_t h, List.length_append]; exact Nat.succ_le_succ ih
    · rw [qL_f h]; omega
theorem qL_cn (cn : Nat → Prop) {v : Nat} : ∀ i, v ∈ qL cn i → v < 256 ∧ cn v := by
  intro i
  induction i with
  | zero => intro h; cases h
  | succ i ih =>
    by_cases h : cn (sq i)
    · rw [qL_t h]
      intro hv
      rcases List.mem_append.mp hv with q | q
      · exact ih q
      · rw [List.mem_singleton] at q
        subst q
        exact ⟨sq_lt i, h⟩
    · rw [qL_f h]; exact ih
theorem qL_in (cn : Nat → Prop) : ∀ n i, i < n → cn (sq i) → sq i ∈ qL cn n := by
  intro n
  induction n with
  | zero => intro i h; omega
  | succ n ih =>
    intro i hi hc
    by_cases e : i = n
    · subst e
      rw [qL_t hc]
      exact List.mem_append_right _ (List.mem_singleton.mpr rfl)
    · have := ih i (by omega) hc
      by_cases h : cn (sq n)
      · rw [qL_t h]; exact List.mem_append_left _ this
      · rw [qL_f h]; exact this
theorem qL_mem {cn : Nat → Prop} {v : Nat} : v ∈ qL cn 256 ↔ v < 256 ∧ cn v := by
  refine ⟨qL_cn cn 256, fun h => ?_⟩
  have e := sq_inv v h.1
  have := qL_in cn 256 ((255 - v) * 23 % 256) (Nat.mod_lt _ (by decide)) (by rw [e]; exact h.2)
  rw [e] at this
  exact this
def askR (dq : Nat → Int64) (q : List Nat) (ac : Int32) (J : Nat → Nat → Int64) : Prop := ac = nI q.length ∧ q.length ≤ 256 ∧ ∀ (i v : Nat), q[i]? = some v → J 13 i = lN v ∧ J 11 i = dq v ∧ v < 256
theorem askR_add {dq : Nat → Int64} {q : List Nat} {ac : Int32} {J J' : Nat → Nat → Int64} (h : askR dq q ac J) (hl : q.length < 256) {v : Nat} (hv : v < 256) (e13 : J' 13 = vp_updL (J 13) q.length (lN v)) (e11 : J' 11 = vp_updL (J 11) q.length (dq v)) : askR dq (q ++ [v]) (nI (q.length + 1)) J' := by
  refine ⟨by rw [List.length_append]; rfl, by rw [List.length_append]; exact hl, fun i s hs => ?_⟩
  rw [e13, e11]
  by_cases e : i < q.length
  · rw [List.getElem?_append_left e] at hs
    obtain ⟨a, b, c⟩ := h.2.2 i s hs
    exact ⟨(if_neg (show ¬ i = q.length by omega)).trans a, (if_neg (show ¬ i = q.length by omega)).trans b, c⟩
  · have hk : i = q.length := by
      have := (List.getElem?_eq_some_iff.mp hs).1
      simp at this
      omega
    subst hk
    simp at hs
    subst hs
    exact ⟨if_pos rfl, if_pos rfl, hv⟩
theorem cAk_cn {sg ws : Int32} {d : Int64} (hi : mIsA 8 sg ws d) {v : Nat} (hv : v < 256) : cAk sg ws (cDv 8 sg d) (cDv 8 sg (lN v)) ↔ cnF sg ws d v := by
  rw [cAk_eq hi, show mLow (lN v) 8 = lN v from mLow_id (N := 8) (Or.inl rfl) (by rw [uN_lN (by omega)]; exact hv)]
  rfl
theorem cAns_dq {sg ws : Int32} {d : Int64} (hi : mIsA 8 sg ws d) {v : Nat} (hv : v < 256) : cAns 8 ws (cQR sg ws (cDv 8 sg d) (cDv 8 sg (lN v))) = dqF sg ws d v := by
  rw [cAns_eq hi, show mLow (lN v) 8 = lN v from mLow_id (N := 8) (Or.inl rfl) (by rw [uN_lN (by omega)]; exact hv)]
  rfl
/-- the search, ready -/
def RdY (τ : gH) (ow : Nat → Nat) (sr : Nat) (ad : Nat → Nat) (f : Nat → Int64) (pf : Nat → Int32) (q : List Nat) (dq : Nat → Int64) (σ' : gH) : Prop := ∃ ac cc I J, SeY τ σ' ow sr ad (ac, cc, 1000, 0) I J ∧ chR f (chL f) cc I J ∧ askR dq q ac J ∧ (∀ k, k < 13 → I 10 k = pf k) ∧ I 16 0 = ac
section CSec
variable {l : Launch} {τ : gH} {ow : Nat → Nat} {sr : Nat} {ad : Nat → Nat} {b q0 pa : Nat} {f : Nat → Int64} {pf : Nat → Int32} {sg ws : Int32} {d : Int64}
theorem lp_X8_prepare (hi : mIsA 8 sg ws d) (hb : Pt τ ow b 3 (gAl 4 f)) (hq : Pt τ ow q0 400 (gO 1 [.int 8, .int (bI (sg = 1)), .int ws, .long (cDv 8 sg d)])) : ∀ (n i : Nat) (σ : gH) (ac cc : Int32) (I : Nat → Nat → Int32) (J : Nat → Nat → Int64) (v5 v6 : Option Value), i + n = 256 → SeY τ σ ow sr ad (ac, cc, 1000, 0) I J → askR (dqF sg ws d) (qL (cnF sg ws d) i) ac J → (∀ k, k < 13 → I 10 k = pf k) → G l mX8_prepare 5 0 0 (pV (RdY τ ow sr ad f pf (qL (cnF sg ws d) 256) (dqF sg ws d))) σ 32 [some (.ref sr), some (.ref q0), some (.ref b), some (.ref pa), some (.int (nI i)), v5, v6] [] := by
  intro n
  induction n with
  | zero =>
    intro i σ ac cc I J v5 v6 hin hS ha hp
    obtain rfl : i = 256 := by omega
    refine g_iload dX8_prepare_32 rfl ?_
    refine g_sipush (v := 256) dX8_prepare_34 (by decide) ?_
    refine g_icmp_ge (tgt := 110) dX8_prepare_37 (by decide) (fun zc37 => ?_) (fun zc37 => ?_)
    · refine g_aload_n (i := 0) dX8_prepare_110 rfl rfl ?_
      refine g_getf dX8_prepare_111 flX8_24 (by first | exact hS.1.1.1 | exact hS.1.2.2.2.1.1) rfl ?_
      refine g_iconst (v := 0) dX8_prepare_114 (by decide) ?_
      refine g_aload_n (i := 0) dX8_prepare_115 rfl rfl ?_
      refine g_getf dX8_prepare_116 flX8_58 (by first | exact hS.1.1.1 | exact hS.1.2.2.2.1.1) rfl ?_
      refine g_iast dX8_prepare_119 (by first | exact hS.1.1.1 | exact hS.1.2.2.2.1.1) ((vp_in_nI (n := 0) (show 0 < 3 by decide) (by decide) : vp_in 0 3)) ?_
      have hS := hS.w16 (upd (I 16) (0 : Int32).toNatClampNeg ac)
      refine g_aload_n (i := 0) dX8_prepare_120 rfl rfl ?_
      refine g_aload_n (i := 2) dX8_prepare_121 rfl rfl ?_
      refine g_callVv (My := mX8_listChoices) [_] dX8_prepare_122 lkX8_71 mvX8_listChoices rfl (by first | exact hS.1.1.1 | exact hS.1.2.2.2.1.1) rfl (c_X8_listChoices hb hS) (by decide) (by decide) (by decide) rfl (Nat.le_of_ble_eq_true rfl) (fun σ zh122 => ?_)
      obtain ⟨cc', I', J', hS', hc', hn'⟩ := zh122
      refine g_vret dX8_prepare_125 rfl ?_
      refine ⟨rfl, _, _, _, _, hS', hc', ⟨ha.1, ha.2.1, fun i v hv => ?_⟩, fun k hk => ?_, ?_⟩
      · rw [hn'.2 13 (by decide), hn'.2 11 (by decide)]
        exact ha.2.2 i v hv
      · rw [hn'.1 10 (by decide)]
        exact hp k hk
      · rw [hn'.1 16 (by decide)]
        rfl
    · exact absurd (nI_le (Nat.le_refl 256) (by omega)) zc37
  | succ n ih =>
    intro i σ ac cc I J v5 v6 hin hS ha hp
    have hv := sq_lt i
    have hln : (nI (sq i)).toInt64 = lN (sq i) := nI_l (by omega)
    have hql := qL_len (cnF sg ws d) i
    have hlt : (qL (cnF sg ws d) i).length < 256 := by omega
    obtain rfl := ha.1
    have hI : vp_in (nI (qL (cnF sg ws d) i).length) 256 := vp_in_nI hlt (by decide)
    have hcn : (nI (qL (cnF sg ws d) i).length).toNatClampNeg = (qL (cnF sg ws d) i).length := nI_clamp (by omega)
    by_cases hc : cnF sg ws d (sq i)
    · refine g_iload dX8_prepare_32 rfl ?_
      refine g_sipush (v := 256) dX8_prepare_34 (by decide) ?_
      refine g_icmp_ge (tgt := 110) dX8_prepare_37 (by decide) (fun zc37 => ?_) (fun zc37 => ?_)
      · exact absurd zc37 (nI_ge (b := 256) (by omega) (by omega))
      · refine g_sipush (v := 255) dX8_prepare_40 (by decide) ?_
        refine g_iload dX8_prepare_43 rfl ?_
        refine g_sipush (v := 167) dX8_prepare_45 (by decide) ?_
        refine g_imul dX8_prepare_48 ?_
        refine g_isub dX8_prepare_49 ?_
        refine g_sipush (v := 255) dX8_prepare_50 (by decide) ?_
        refine g_iand dX8_prepare_53 ?_
        rw [sq_eq i (by omega)]
        refine g_i2l dX8_prepare_54 ?_
        rw [hln]
        refine g_lstore (ls' := [_, _, _, _, _, _, _]) dX8_prepare_55 (by decide) rfl rfl ?_
        refine g_aload_n (i := 1) dX8_prepare_57 rfl rfl ?_
        refine g_lload dX8_prepare_58 rfl ?_
        refine g_callVi (My := mX1_asksOf) [_] dX8_prepare_60 lkX8_61 mvX1_asksOf rfl (by first | exact (hq.mono hS.2 (by decide)).1 | exact hS.1.1.1 | exact hS.1.2.1.2.2.1 | exact hS.1.2.1.2.1.1 | exact (hS.1.2.2.1 0 (by decide)).1) rfl (c_X1_asksOf (hq.mono hS.2 (by decide)).1 _) (by decide) (by decide) (by decide) rfl (Nat.le_of_ble_eq_true rfl) (fun zr60 σ zh60 => ?_)
        obtain ⟨ze60, zf60⟩ := zh60
        rw [ze60, zf60]
        refine g_if_eq (tgt := 104) dX8_prepare_63 (by decide) (fun zc63 => ?_) (fun zc63 => ?_)
        · exact absurd ((cAk_cn hi hv).mpr hc) (bI_eq0.mp zc63)
        · refine g_aload_n (i := 0) dX8_prepare_66 rfl rfl ?_
          refine g_getf dX8_prepare_67 flX8_21 (by first | exact (hq.mono hS.2 (by decide)).1 | exact hS.1.1.1 | exact hS.1.2.1.2.2.1 | exact hS.1.2.1.2.1.1 | exact (hS.1.2.2.1 0 (by decide)).1) rfl ?_
          refine g_iconst (v := 0) dX8_prepare_70 (by decide) ?_
          refine g_aaldA dX8_prepare_71 (by first | exact (hq.mono hS.2 (by decide)).1 | exact hS.1.1.1 | exact hS.1.2.1.2.2.1 | exact hS.1.2.1.2.1.1 | exact (hS.1.2.2.1 0 (by decide)).1) ((vp_in_nI (n := 0) (show 0 < 3 by decide) (by decide) : vp_in 0 3)) ?_
          refine g_tor (ad (13 + 0)) rfl ?_
          refine g_aload_n (i := 0) dX8_prepare_72 rfl rfl ?_
          refine g_getf dX8_prepare_73 flX8_58 (by first | exact (hq.mono hS.2 (by decide)).1 | exact hS.1.1.1 | exact hS.1.2.1.2.2.1 | exact hS.1.2.1.2.1.1 | exact (hS.1.2.2.1 0 (by decide)).1) rfl ?_
          refine g_lload dX8_prepare_76 rfl ?_
          refine g_last dX8_prepare_78 (by first | exact (hq.mono hS.2 (by decide)).1 | exact hS.1.1.1 | exact hS.1.2.1.2.2.1 | exact hS.1.2.1.2.1.1 | exact (hS.1.2.2.1 0 (by decide)).1) (hI) ?_
          have hS := hS.wr (k := 0) (by decide) (vp_updL (J 13) (nI (qL (cnF sg ws d) i).length).toNatClampNeg (lN (sq i)))
          refine g_aload_n (i := 0) dX8_prepare_79 rfl rfl ?_
          refine g_getf dX8_prepare_80 flX8_15 (by first | exact (hq.mono hS.2 (by decide)).1 | exact hS.1.1.1 | exact hS.1.2.1.2.2.1 | exact hS.1.2.1.2.1.1 | exact (hS.1.2.2.1 0 (by decide)).1) rfl ?_
          refine g_aload_n (i := 0) dX8_prepare_83 rfl rfl ?_
          refine g_getf dX8_prepare_84 flX8_58 (by first | exact (hq.mono hS.2 (by decide)).1 | exact hS.1.1.1 | exact hS.1.2.1.2.2.1 | exact hS.1.2.1.2.1.1 | exact (hS.1.2.2.1 0 (by decide)).1) rfl ?_
          refine g_aload_n (i := 1) dX8_prepare_87 rfl rfl ?_
          refine g_lload dX8_prepare_88 rfl ?_
          refine g_callVl (My := mX1_answer) [_] dX8_prepare_90 lkX8_67 mvX1_answer rfl (by first | exact (hq.mono hS.2 (by decide)).1 | exact hS.1.1.1 | exact hS.1.2.1.2.2.1 | exact hS.1.2.1.2.1.1 | exact (hS.1.2.2.1 0 (by decide)).1) rfl (c_X1_answer (hq.mono hS.2 (by decide)).1 _) (by decide) (by decide) (by decide) rfl (Nat.le_of_ble_eq_true rfl) (fun zr90 σ zh90 => ?_)
          obtain ⟨ze90, zf90⟩ := zh90
          rw [ze90, zf90, cAns_dq hi hv]
          refine g_last dX8_prepare_93 (by first | exact (hq.mono hS.2 (by decide)).1 | exact hS.1.1.1 | exact hS.1.2.1.2.2.1 | exact hS.1.2.1.2.1.1 | exact (hS.1.2.2.1 0 (by decide)).1) (hI) ?_
          have hS := hS.w11 (vp_updL (J 11) (nI (qL (cnF sg ws d) i).length).toNatClampNeg (dqF sg ws d (sq i)))
          refine g_aload_n (i := 0) dX8_prepare_94 rfl rfl ?_
          refine g_dup dX8_prepare_95 rfl ?_
          refine g_getf dX8_prepare_96 flX8_58 (by first | exact (hq.mono hS.2 (by decide)).1 | exact hS.1.1.1 | exact hS.1.2.1.2.2.1 | exact hS.1.2.1.2.1.1 | exact (hS.1.2.2.1 0 (by decide)).1) rfl ?_
          refine g_iconst (v := 1) dX8_prepare_99 (by decide) ?_
          refine g_iadd dX8_prepare_100 ?_
          refine g_putf (fs' := [_, _, _, _, _, _, _, _, _, _, _, _, _, _]) dX8_prepare_101 flX8_58 fp6_1 (by first | exact (hq.mono hS.2 (by decide)).1 | exact hS.1.1.1 | exact hS.1.2.1.2.2.1 | exact hS.1.2.1.2.1.1 | exact (hS.1.2.2.1 0 (by decide)).1) rfl rfl (Nat.le_of_ble_eq_true rfl) rfl ?_
          have hS := hS.w8 (nI (qL (cnF sg ws d) i).length + 1) cc 1000 0
          refine g_iinc (v := _ + 1) (ls' := [_, _, _, _, _, _, _]) dX8_prepare_104 rfl rfl (by decide) rfl rfl ?_
          refine g_goto (tgt := 32) dX8_prepare_107 (by decide) ?_
          refine g_cl (by rw [nI_1]) (ih (i + 1) _ _ _ _ _ _ _ (by omega) hS ?_ hp)
          rw [qL_t hc, nI_1, hcn]
          exact askR_add ha hlt hv rfl rfl
    · refine g_iload dX8_prepare_32 rfl ?_
      refine g_sipush (v := 256) dX8_prepare_34 (by decide) ?_
      refine g_icmp_ge (tgt := 110) dX8_prepare_37 (by decide) (fun zc37 => ?_) (fun zc37 => ?_)
      · exact absurd zc37 (nI_ge (b := 256) (by omega) (by omega))
      · refine g_sipush (v := 255) dX8_prepare_40 (by decide) ?_
        refine g_iload dX8_prepare_43 rfl ?_
        refine g_sipush (v := 167) dX8_prepare_45 (by decide) ?_
        refine g_imul dX8_prepare_48 ?_
        refine g_isub dX8_prepare_49 ?_
        refine g_sipush (v := 255) dX8_prepare_50 (by decide) ?_
        refine g_iand dX8_prepare_53 ?_
        rw [sq_eq i (by omega)]
        refine g_i2l dX8_prepare_54 ?_
        rw [hln]
        refine g_lstore (ls' := [_, _, _, _, _, _, _]) dX8_prepare_55 (by decide) rfl rfl ?_
        refine g_aload_n (i := 1) dX8_prepare_57 rfl rfl ?_
        refine g_lload dX8_prepare_58 rfl ?_
        refine g_callVi (My := mX1_asksOf) [_] dX8_prepare_60 lkX8_61 mvX1_asksOf rfl ((hq.mono hS.2 (by decide)).1) rfl (c_X1_asksOf (hq.mono hS.2 (by decide)).1 _) (by decide) (by decide) (by decide) rfl (Nat.le_of_ble_eq_true rfl) (fun zr60 σ zh60 => ?_)
        obtain ⟨ze60, zf60⟩ := zh60
        rw [ze60, zf60]
        refine g_if_eq (tgt := 104) dX8_prepare_63 (by decide) (fun zc63 => ?_) (fun zc63 => ?_)
        · refine g_iinc (v := _ + 1) (ls' := [_, _, _, _, _, _, _]) dX8_prepare_104 rfl rfl (by decide) rfl rfl ?_
          refine g_goto (tgt := 32) dX8_prepare_107 (by decide) ?_
          refine g_cl (by rw [nI_1]) (ih (i + 1) _ _ _ _ _ _ _ (by omega) hS ?_ hp)
          rw [qL_f hc]
          exact ha
        · exact absurd ((cAk_cn hi hv).mp (bI_ne0.mp zc63)) hc
theorem c_X8_prepare {s4 : Int32 × Int32 × Int32 × Int32} {I : Nat → Nat → Int32} {J : Nat → Nat → Int64} (hi : mIsA 8 sg ws d) (hb : Pt τ ow b 3 (gAl 4 f)) (hq : Pt τ ow q0 400 (gO 1 [.int 8, .int (bI (sg = 1)), .int ws, .long (cDv 8 sg d)])) (hpa : Pt τ ow pa 2 (gAi 13 pf)) (hX : SeX τ ow sr ad s4 I J) : Ct l mX8_prepare 5 0 0 [.ref sr, .ref q0, .ref b, .ref pa] τ (pV (RdY τ ow sr ad f pf (qL (cnF sg ws d) 256) (dqF sg ws d))) := by
  obtain ⟨ac, cc, bc, bl⟩ := s4
  have hS : SeY τ τ ow sr ad (ac, cc, bc, bl) I J := ⟨hX, Sm.rf _ _ _⟩
  refine Ct_of moX8_prepare [some (.ref sr), some (.ref q0), some (.ref b), some (.ref pa), none, none, none] rfl (Nat.le_of_ble_eq_true rfl) ?_
  refine g_aload_n (i := 3) dX8_prepare_0 rfl rfl ?_
  refine g_iconst (v := 0) dX8_prepare_1 (by decide) ?_
  refine g_aload_n (i := 0) dX8_prepare_2 rfl rfl ?_
  refine g_getf dX8_prepare_3 flX8_9 (hS.1.1.1) rfl ?_
  refine g_iconst (v := 0) dX8_prepare_6 (by decide) ?_
  refine g_bipush (v := 13) dX8_prepare_7 (by decide) ?_
  refine g_copyi dX8_prepare_9 lkX8_45 hpa.1 hS.1.2.1.1.1 (by decide) rfl (by decide) (by decide) ?_
  have hS := hS.w10 (va_cpy pf (I 10) 0 0 13)
  refine g_aload_n (i := 0) dX8_prepare_12 rfl rfl ?_
  refine g_sipush (v := 1000) dX8_prepare_13 (by decide) ?_
  refine g_putf (fs' := [_, _, _, _, _, _, _, _, _, _, _, _, _, _]) dX8_prepare_16 flX8_51 fp6_11 (hS.1.1.1) rfl rfl (Nat.le_of_ble_eq_true rfl) rfl ?_
  have hS := hS.w8 ac cc 1000 bl
  refine g_aload_n (i := 0) dX8_prepare_19 rfl rfl ?_
  refine g_iconst (v := 0) dX8_prepare_20 (by decide) ?_
  refine g_putf (fs' := [_, _, _, _, _, _, _, _, _, _, _, _, _, _]) dX8_prepare_21 flX8_55 fp6_12 (hS.1.1.1) rfl rfl (Nat.le_of_ble_eq_true rfl) rfl ?_
  have hS := hS.w8 ac cc 1000 0
  refine g_aload_n (i := 0) dX8_prepare_24 rfl rfl ?_
  refine g_iconst (v := 0) dX8_prepare_25 (by decide) ?_
  refine g_putf (fs' := [_, _, _, _, _, _, _, _, _, _, _, _, _, _]) dX8_prepare_26 flX8_58 fp6_1 (hS.1.1.1) rfl rfl (Nat.le_of_ble_eq_true rfl) rfl ?_
  have hS := hS.w8 0 cc 1000 0
  refine g_iconst (v := 0) dX8_prepare_29 (by decide) ?_
  refine g_istore (ls' := [_, _, _, _, _, _, _]) dX8_prepare_30 (by decide) rfl rfl ?_
  refine lp_X8_prepare hi hb hq 256 0 _ _ _ _ _ _ _ (by omega) hS ⟨rfl, Nat.zero_le _, fun i v h => ?_⟩ (fun k hk => ?_)
  · rw [show qL (cnF sg ws d) 0 = [] from rfl] at h
    simp at h
  · show va_cpy pf (I 10) 0 0 13 k = pf k
    rw [va_cpy, if_pos ⟨Nat.zero_le _, by omega⟩, Nat.zero_add, Nat.sub_zero]
end CSec
