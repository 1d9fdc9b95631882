/-! the reference: use() -/
def nd (how : Int32) : Int32 := if how < 2 then 1 else if how < 6 then how else if how = 8 then 3 else 2
abbrev inR (L : List Int64) (x : Int32) : Prop := ¬ x < 0 ∧ x < nI L.length
noncomputable def use1 (A : aA) (h : Nat) (how x y : Int32) : Int32 × aA :=
  if (A.2.2.2.1 h).1 = 0 then (if how = 10 then -15 else -12, A) else if how = 10 then (-11, A) else if ¬ (A.2.2.2.1 h).1 = nd how then (-11, A) else
  if how = 0 then (((A.2.2.2.1 h).2.getD 0 0).toInt32, A) else if how = 1 then (if (A.2.2.2.1 h).2.getD 0 0 < 2 ∨ 4 < (A.2.2.2.1 h).2.getD 0 0 then -11 else ((A.2.2.2.1 h).2.getD 1 0).toInt32, A) else
  if how = 9 then (if x < 0 then -14 else if y < 0 ∨ x < y ∨ nI (A.2.2.2.1 h).2.length < y then -13 else y, A) else
  if ¬ inR (A.2.2.2.1 h).2 x ∨ ((how = 7 ∨ how = 8) ∧ ¬ inR (A.2.2.2.1 h).2 y) then (-13, A) else
  if how < 6 then (((A.2.2.2.1 h).2.getD x.toNatClampNeg 0).toInt32, A) else
  if how = 6 then (((A.2.2.2.1 h).2.getD x.toNatClampNeg 0).toInt32, aSetHk (aNote A (6, h, x.toNatClampNeg, (A.2.2.2.1 h).2.getD x.toNatClampNeg 0, (0, []))) h ((A.2.2.2.1 h).1, (A.2.2.2.1 h).2.set x.toNatClampNeg y.toInt64)) else
  if (A.2.2.2.1 h).2.getD y.toNatClampNeg 0 = 0 then (-16, A) else
  if how = 7 then ((mSdv ((A.2.2.2.1 h).2.getD x.toNatClampNeg 0) ((A.2.2.2.1 h).2.getD y.toNatClampNeg 0)).toInt32, A) else
  (if (A.2.2.2.1 h).2.getD y.toNatClampNeg 0 = -1 then 0 else ((A.2.2.2.1 h).2.getD x.toNatClampNeg 0 - (A.2.2.2.1 h).2.getD x.toNatClampNeg 0 / (A.2.2.2.1 h).2.getD y.toNatClampNeg 0 * (A.2.2.2.1 h).2.getD y.toNatClampNeg 0).toInt32, A)
noncomputable def sUse (A : aA) (h how x y : Int32) : Int32 × aA := if (¬ h < 0 ∧ h < 8) ∧ (¬ how < 0 ∧ how ≤ 10) ∧ ¬ (how = 9 ∧ 100 < x) then use1 A h.toNatClampNeg how x y else (-1, A)
section CMuse
variable {l : Launch} {o : Nat} {ad : Nat → Nat} {S : mS} {A : aA} {σ : gH}
theorem c_X11_isIn (hM : Mm σ o ad S) (hR : RepM S A) {h : Nat} (hh : h < 8) (x : Int32) : Ct l mX11_isIn 1 0 0 [.ref o, .int (nI h), .int x] σ (pI fun r σ' => r = bI (inR (A.2.2.2.1 h).2 x) ∧ σ' = σ) := by
  have hch : (nI h).toNatClampNeg = h := nI_clamp (by omega)
  refine Ct_of moX11_isIn [some (.ref o), some (.int (nI h)), some (.int x)] rfl (Nat.le_of_ble_eq_true rfl) ?_
  refine g_iload_n (i := 2) dX11_isIn_0 rfl rfl ?_
  refine g_if_lt (tgt := 18) dX11_isIn_1 (by decide) (fun zc1 => ?_) (fun zc1 => ?_)
  · refine g_iconst (v := 0) dX11_isIn_18 (by decide) ?_
    refine g_zret dX11_isIn_19 rfl (rfl) ?_
    first
    | exact ⟨_, rfl, Eq.symm (bI_t ⟨zc1, Int32.not_le.mp zc11⟩), rfl⟩
    | exact ⟨_, rfl, Eq.symm (bI_f (fun z => absurd zc11 (Int32.not_le.mpr z.2))), rfl⟩
    | exact ⟨_, rfl, Eq.symm (bI_f (fun z => z.1 zc1)), rfl⟩
  · refine g_iload_n (i := 2) dX11_isIn_4 rfl rfl ?_
    refine g_aload_n (i := 0) dX11_isIn_5 rfl rfl ?_
    refine gm_get hM (k := 16) dX11_isIn_6 flX11_47 rfl ?_
    refine g_iload_n (i := 1) dX11_isIn_9 rfl rfl ?_
    refine gm_iald hM dX11_isIn_10 rfl ((vp_in_nI (show h < 58 by omega) (by decide) : vp_in (nI h) 58)) ?_
    refine g_toi (nI (A.2.2.2.1 h).2.length) (by rw [hch]; exact (hR.2.2.2.1 h hh).2.1) ?_
    refine g_icmp_ge (tgt := 18) dX11_isIn_11 (by decide) (fun zc11 => ?_) (fun zc11 => ?_)
    · refine g_iconst (v := 0) dX11_isIn_18 (by decide) ?_
      refine g_zret dX11_isIn_19 rfl (rfl) ?_
      first
      | exact ⟨_, rfl, Eq.symm (bI_t ⟨zc1, Int32.not_le.mp zc11⟩), rfl⟩
      | exact ⟨_, rfl, Eq.symm (bI_f (fun z => absurd zc11 (Int32.not_le.mpr z.2))), rfl⟩
      | exact ⟨_, rfl, Eq.symm (bI_f (fun z => z.1 zc1)), rfl⟩
    · refine g_iconst (v := 1) dX11_isIn_14 (by decide) ?_
      refine g_goto (tgt := 19) dX11_isIn_15 (by decide) ?_
      refine g_zret dX11_isIn_19 rfl (rfl) ?_
      first
      | exact ⟨_, rfl, Eq.symm (bI_t ⟨zc1, Int32.not_le.mp zc11⟩), rfl⟩
      | exact ⟨_, rfl, Eq.symm (bI_f (fun z => absurd zc11 (Int32.not_le.mpr z.2))), rfl⟩
      | exact ⟨_, rfl, Eq.symm (bI_f (fun z => z.1 zc1)), rfl⟩
theorem inR_ix {L : List Int64} (hL : L.length ≤ 12) {x : Int32} (h : inR L x) : ∃ j : Nat, j < L.length ∧ x = nI j := by
  rcases ix3 x L.length (by omega) with q | q | q
  · exact absurd q h.1
  · exact absurd h.2 (Int32.not_lt.mpr q.2)
  · exact q
theorem t99_X11_use (hM : Mm σ o ad S) (hR : RepM S A) {h : Nat} (hh : h < 8) (hwk : (A.2.2.2.1 h).1 = 1 → (A.2.2.2.1 h).2.length = 2) (how x y : Int32) (hK0 : ¬ (A.2.2.2.1 h).1 = 0) (h10 : ¬ how = 10) (hlo : ¬ how < 0) (hhi : how ≤ 10) : G l mX11_use 4 0 0 (pI (mP o ad (use1 A h how x y))) σ 99 [some (.ref o), some (.int (nI h)), some (.int how), some (.int x), some (.int y), some (.int (A.2.2.2.1 h).1), some (.int (nd how)), none, none, none, none, none] [] := by
  have hch : (nI h).toNatClampNeg = h := nI_clamp (by omega)
  have hH : vp_in (nI h) 58 := vp_in_nI (by omega) (by decide)
  obtain ⟨g1, g2, g3, g4⟩ := hR.2.2.2.1 h hh
  have hget : ∀ i, i < (A.2.2.2.1 h).2.length → S.2.2.2 17 (100 * h + i) = (A.2.2.2.1 h).2.getD i 0 := by
    intro i hi
    rw [g4 i _ (List.getElem?_eq_getElem hi), List.getD_eq_getElem?_getD, List.getElem?_eq_getElem hi]
    rfl
  have hc0 : (nI (100 * h)).toNatClampNeg = 100 * h := nI_clamp (by omega)
  have hc1 : (nI (100 * h + 1)).toNatClampNeg = 100 * h + 1 := nI_clamp (by omega)
  have fin : ∀ r, use1 A h how x y = (r, A) → pI (mP o ad (use1 A h how x y)) (some (.int r)) σ := fun r e => ⟨r, rfl, by rw [e], S, hM, by rw [e]; exact hR⟩
  by_cases hK : ¬ (A.2.2.2.1 h).1 = nd how
  · have hv : use1 A h how x y = (-11, A) := by
      unfold use1
      rw [if_neg hK0, if_neg h10, if_pos hK]
    refine g_iload dX11_use_99 rfl ?_
    refine g_iload dX11_use_101 rfl ?_
    refine g_icmp_eq (tgt := 109) dX11_use_103 (by decide) (fun zc103 => ?_) (fun zc103 => ?_)
    · exact absurd zc103 hK
    · refine g_bipush (v := (-11)) dX11_use_106 (by decide) ?_
      refine g_iret dX11_use_108 rfl ?_
      exact fin _ hv
  have hK := Classical.not_not.mp hK
  have hU := fun (r : Int32 × aA) (e : (if how = 0 then (((A.2.2.2.1 h).2.getD 0 0).toInt32, A) else if how = 1 then (if (A.2.2.2.1 h).2.getD 0 0 < 2 ∨ 4 < (A.2.2.2.1 h).2.getD 0 0 then -11 else ((A.2.2.2.1 h).2.getD 1 0).toInt32, A) else
    if how = 9 then (if x < 0 then -14 else if y < 0 ∨ x < y ∨ nI (A.2.2.2.1 h).2.length < y then -13 else y, A) else
    if ¬ inR (A.2.2.2.1 h).2 x ∨ ((how = 7 ∨ how = 8) ∧ ¬ inR (A.2.2.2.1 h).2 y) then (-13, A) else
    if how < 6 then (((A.2.2.2.1 h).2.getD x.toNatClampNeg 0).toInt32, A) else
    if how = 6 then (((A.2.2.2.1 h).2.getD x.toNatClampNeg 0).toInt32, aSetHk (aNote A (6, h, x.toNatClampNeg, (A.2.2.2.1 h).2.getD x.toNatClampNeg 0, (0, []))) h ((A.2.2.2.1 h).1, (A.2.2.2.1 h).2.set x.toNatClampNeg y.toInt64)) else
    if (A.2.2.2.1 h).2.getD y.toNatClampNeg 0 = 0 then (-16, A) else
    if how = 7 then ((mSdv ((A.2.2.2.1 h).2.getD x.toNatClampNeg 0) ((A.2.2.2.1 h).2.getD y.toNatClampNeg 0)).toInt32, A) else
    (if (A.2.2.2.1 h).2.getD y.toNatClampNeg 0 = -1 then 0 else ((A.2.2.2.1 h).2.getD x.toNatClampNeg 0 - (A.2.2.2.1 h).2.getD x.toNatClampNeg 0 / (A.2.2.2.1 h).2.getD y.toNatClampNeg 0 * (A.2.2.2.1 h).2.getD y.toNatClampNeg 0).toInt32, A) : Int32 × aA) = r) => show use1 A h how x y = r from by
      rw [← e]
      unfold use1
      rw [if_neg hK0, if_neg h10, if_neg (fun z => z hK)]
  have hn2 : how < 2 → (A.2.2.2.1 h).2.length = 2 := fun z => hwk (by rw [hK]; unfold nd; rw [if_pos z])
  by_cases h0 : how = 0
  · have hl := hn2 (by rw [h0]; decide)
    have hv := hU _ (if_pos h0)
    refine g_iload dX11_use_99 rfl ?_
    refine g_iload dX11_use_101 rfl ?_
    refine g_icmp_eq (tgt := 109) dX11_use_103 (by decide) (fun zc103 => ?_) (fun zc103 => ?_)
    · refine g_bipush (v := 100) dX11_use_109 (by decide) ?_
      refine g_iload_n (i := 1) dX11_use_111 rfl rfl ?_
      refine g_imul dX11_use_112 ?_
      rw [ix100z]
      refine g_istore (ls' := [_, _, _, _, _, _, _, _, _, _, _, _]) dX11_use_113 (by decide) rfl rfl ?_
      refine g_iload_n (i := 2) dX11_use_115 rfl rfl ?_
      refine g_if_ne (tgt := 128) dX11_use_116 (by decide) (fun zc116 => ?_) (fun zc116 => ?_)
      · exact absurd h0 zc116
      · refine g_aload_n (i := 0) dX11_use_119 rfl rfl ?_
        refine gm_get hM (k := 17) dX11_use_120 flX11_50 rfl ?_
        refine g_iload dX11_use_123 rfl ?_
        refine gm_lald hM dX11_use_125 rfl ((vp_in_nI (show 100 * h < 5800 by omega) (by decide) : vp_in (nI (100 * h)) 5800)) ?_
        refine g_tol ((A.2.2.2.1 h).2.getD 0 0) (by rw [hc0]; exact hget 0 (by omega)) ?_
        refine g_l2i dX11_use_126 ?_
        refine g_iret dX11_use_127 rfl ?_
        exact fin _ hv
    · exact absurd hK zc103
  by_cases h1 : how = 1
  · have hl := hn2 (by rw [h1]; decide)
    have hv := hU _ ((if_neg h0).trans (if_pos h1))
    refine g_iload dX11_use_99 rfl ?_
    refine g_iload dX11_use_101 rfl ?_
    refine g_icmp_eq (tgt := 109) dX11_use_103 (by decide) (fun zc103 => ?_) (fun zc103 => ?_)
    · refine g_bipush (v := 100) dX11_use_109 (by decide) ?_
      refine g_iload_n (i := 1) dX11_use_111 rfl rfl ?_
      refine g_imul dX11_use_112 ?_
      rw [ix100z]
      refine g_istore (ls' := [_, _, _, _, _, _, _, _, _, _, _, _]) dX11_use_113 (by decide) rfl rfl ?_
      refine g_iload_n (i := 2) dX11_use_115 rfl rfl ?_
      refine g_if_ne (tgt := 128) dX11_use_116 (by decide) (fun zc116 => ?_) (fun zc116 => ?_)
      · refine g_iload_n (i := 2) dX11_use_128 rfl rfl ?_
        refine g_iconst (v := 1) dX11_use_129 (by decide) ?_
        refine g_icmp_ne (tgt := 177) dX11_use_130 (by decide) (fun zc130 => ?_) (fun zc130 => ?_)
        · exact absurd h1 zc130
        · refine g_aload_n (i := 0) dX11_use_133 rfl rfl ?_
          refine gm_get hM (k := 17) dX11_use_134 flX11_50 rfl ?_
          refine g_iload dX11_use_137 rfl ?_
          refine gm_lald hM dX11_use_139 rfl ((vp_in_nI (show 100 * h < 5800 by omega) (by decide) : vp_in (nI (100 * h)) 5800)) ?_
          refine g_tol ((A.2.2.2.1 h).2.getD 0 0) (by rw [hc0]; exact hget 0 (by omega)) ?_
          refine g_ldc2 (v := 2) dX11_use_140 klX11_116 ?_
          refine g_lcmp dX11_use_143 ?_
          refine g_if_lt (tgt := 161) dX11_use_144 (by decide) (fun zc144 => ?_) (fun zc144 => ?_)
          · refine g_bipush (v := (-11)) dX11_use_161 (by decide) ?_
            refine g_goto (tgt := 176) dX11_use_163 (by decide) ?_
            refine g_iret dX11_use_176 rfl ?_
            first
            | (have hx : (A.2.2.2.1 h).2.getD 0 0 < 2 := (lg_cmp_lt _ _).mp zc144
               rw [if_pos (Or.inl hx)] at hv
               exact fin _ hv)
            | (have hx : ¬ (A.2.2.2.1 h).2.getD 0 0 < 2 := fun z => zc144 ((lg_cmp_lt _ _).mpr z)
               have hy : ¬ 4 < (A.2.2.2.1 h).2.getD 0 0 := Int64.not_lt.mpr ((lg_cmp_le _ _).mp zc158)
               rw [if_neg (fun z => z.elim hx hy)] at hv
               exact fin _ hv)
            | (have hy : 4 < (A.2.2.2.1 h).2.getD 0 0 := Int64.not_le.mp (fun z => zc158 ((lg_cmp_le _ _).mpr z))
               rw [if_pos (Or.inr hy)] at hv
               exact fin _ hv)
          · refine g_aload_n (i := 0) dX11_use_147 rfl rfl ?_
            refine gm_get hM (k := 17) dX11_use_148 flX11_50 rfl ?_
            refine g_iload dX11_use_151 rfl ?_
            refine gm_lald hM dX11_use_153 rfl ((vp_in_nI (show 100 * h < 5800 by omega) (by decide) : vp_in (nI (100 * h)) 5800)) ?_
            refine g_tol ((A.2.2.2.1 h).2.getD 0 0) (by rw [hc0]; exact hget 0 (by omega)) ?_
            refine g_ldc2 (v := 4) dX11_use_154 klX11_298 ?_
            refine g_lcmp dX11_use_157 ?_
            refine g_if_le (tgt := 166) dX11_use_158 (by decide) (fun zc158 => ?_) (fun zc158 => ?_)
            · refine g_aload_n (i := 0) dX11_use_166 rfl rfl ?_
              refine gm_get hM (k := 17) dX11_use_167 flX11_50 rfl ?_
              refine g_iload dX11_use_170 rfl ?_
              refine g_iconst (v := 1) dX11_use_172 (by decide) ?_
              refine g_iadd dX11_use_173 ?_
              rw [nI_1]
              refine gm_lald hM dX11_use_174 rfl ((vp_in_nI (show 100 * h + 1 < 5800 by omega) (by decide) : vp_in (nI (100 * h + 1)) 5800)) ?_
              refine g_tol ((A.2.2.2.1 h).2.getD 1 0) (by rw [hc1]; exact hget 1 (by omega)) ?_
              refine g_l2i dX11_use_175 ?_
              refine g_iret dX11_use_176 rfl ?_
              first
              | (have hx : (A.2.2.2.1 h).2.getD 0 0 < 2 := (lg_cmp_lt _ _).mp zc144
                 rw [if_pos (Or.inl hx)] at hv
                 exact fin _ hv)
              | (have hx : ¬ (A.2.2.2.1 h).2.getD 0 0 < 2 := fun z => zc144 ((lg_cmp_lt _ _).mpr z)
                 have hy : ¬ 4 < (A.2.2.2.1 h).2.getD 0 0 := Int64.not_lt.mpr ((lg_cmp_le _ _).mp zc158)
                 rw [if_neg (fun z => z.elim hx hy)] at hv
                 exact fin _ hv)
              | (have hy : 4 < (A.2.2.2.1 h).2.getD 0 0 := Int64.not_le.mp (fun z => zc158 ((lg_cmp_le _ _).mpr z))
                 rw [if_pos (Or.inr hy)] at hv
                 exact fin _ hv)
            · refine g_bipush (v := (-11)) dX11_use_161 (by decide) ?_
              refine g_goto (tgt := 176) dX11_use_163 (by decide) ?_
              refine g_iret dX11_use_176 rfl ?_
              first
              | (have hx : (A.2.2.2.1 h).2.getD 0 0 < 2 := (lg_cmp_lt _ _).mp zc144
                 rw [if_pos (Or.inl hx)] at hv
                 exact fin _ hv)
              | (have hx : ¬ (A.2.2.2.1 h).2.getD 0 0 < 2 := fun z => zc144 ((lg_cmp_lt _ _).mpr z)
                 have hy : ¬ 4 < (A.2.2.2.1 h).2.getD 0 0 := Int64.not_lt.mpr ((lg_cmp_le _ _).mp zc158)
                 rw [if_neg (fun z => z.elim hx hy)] at hv
                 exact fin _ hv)
              | (have hy : 4 < (A.2.2.2.1 h).2.getD 0 0 := Int64.not_le.mp (fun z => zc158 ((lg_cmp_le _ _).mpr z))
                 rw [if_pos (Or.inr hy)] at hv
                 exact fin _ hv)
      · exact absurd zc116 h0
    · exact absurd hK zc103
  by_cases h9 : how = 9
  · have hv := hU _ ((if_neg h0).trans ((if_neg h1).trans (if_pos h9)))
    refine g_iload dX11_use_99 rfl ?_
    refine g_iload dX11_use_101 rfl ?_
    refine g_icmp_eq (tgt := 109) dX11_use_103 (by decide) (fun zc103 => ?_) (fun zc103 => ?_)
    · refine g_bipush (v := 100) dX11_use_109 (by decide) ?_
      refine g_iload_n (i := 1) dX11_use_111 rfl rfl ?_
      refine g_imul dX11_use_112 ?_
      rw [ix100z]
      refine g_istore (ls' := [_, _, _, _, _, _, _, _, _, _, _, _]) dX11_use_113 (by decide) rfl rfl ?_
      refine g_iload_n (i := 2) dX11_use_115 rfl rfl ?_
      refine g_if_ne (tgt := 128) dX11_use_116 (by decide) (fun zc116 => ?_) (fun zc116 => ?_)
      · refine g_iload_n (i := 2) dX11_use_128 rfl rfl ?_
        refine g_iconst (v := 1) dX11_use_129 (by decide) ?_
        refine g_icmp_ne (tgt := 177) dX11_use_130 (by decide) (fun zc130 => ?_) (fun zc130 => ?_)
        · refine g_iload_n (i := 2) dX11_use_177 rfl rfl ?_
          refine g_bipush (v := 9) dX11_use_178 (by decide) ?_
          refine g_icmp_ne (tgt := 222) dX11_use_180 (by decide) (fun zc180 => ?_) (fun zc180 => ?_)
          · exact absurd h9 zc180
          · refine g_iload_n (i := 3) dX11_use_183 rfl rfl ?_
            refine g_if_ge (tgt := 192) dX11_use_184 (by decide) (fun zc184 => ?_) (fun zc184 => ?_)
            · refine g_iload dX11_use_192 rfl ?_
              refine g_if_lt (tgt := 214) dX11_use_194 (by decide) (fun zc194 => ?_) (fun zc194 => ?_)
              · refine g_bipush (v := (-13)) dX11_use_214 (by decide) ?_
                refine g_goto (tgt := 221) dX11_use_216 (by decide) ?_
                refine g_iret dX11_use_221 rfl ?_
                first
                | (have hx : x < 0 := Int32.not_le.mp zc184
                   rw [if_pos hx] at hv
                   exact fin _ hv)
                | (have hx : ¬ x < 0 := Int32.not_lt.mpr zc184
                   have hy : y < 0 := zc194
                   rw [if_neg hx, if_pos (Or.inl hy)] at hv
                   exact fin _ hv)
                | (have hx : ¬ x < 0 := Int32.not_lt.mpr zc184
                   have hy : x < y := zc200
                   rw [if_neg hx, if_pos (Or.inr (Or.inl hy))] at hv
                   exact fin _ hv)
                | (have hx : ¬ x < 0 := Int32.not_lt.mpr zc184
                   have hy : nI (A.2.2.2.1 h).2.length < y := Int32.not_le.mp zc211
                   rw [if_neg hx, if_pos (Or.inr (Or.inr hy))] at hv
                   exact fin _ hv)
                | (have hx : ¬ x < 0 := Int32.not_lt.mpr zc184
                   have hy : ¬ (y < 0 ∨ x < y ∨ nI (A.2.2.2.1 h).2.length < y) := fun z => z.elim zc194 (fun z => z.elim zc200 (fun z => absurd zc211 (Int32.not_le.mpr z)))
                   rw [if_neg hx, if_neg hy] at hv
                   exact fin _ hv)
              · refine g_iload dX11_use_197 rfl ?_
                refine g_iload_n (i := 3) dX11_use_199 rfl rfl ?_
                refine g_icmp_gt (tgt := 214) dX11_use_200 (by decide) (fun zc200 => ?_) (fun zc200 => ?_)
                · refine g_bipush (v := (-13)) dX11_use_214 (by decide) ?_
                  refine g_goto (tgt := 221) dX11_use_216 (by decide) ?_
                  refine g_iret dX11_use_221 rfl ?_
                  first
                  | (have hx : x < 0 := Int32.not_le.mp zc184
                     rw [if_pos hx] at hv
                     exact fin _ hv)
                  | (have hx : ¬ x < 0 := Int32.not_lt.mpr zc184
                     have hy : y < 0 := zc194
                     rw [if_neg hx, if_pos (Or.inl hy)] at hv
                     exact fin _ hv)
                  | (have hx : ¬ x < 0 := Int32.not_lt.mpr zc184
                     have hy : x < y := zc200
                     rw [if_neg hx, if_pos (Or.inr (Or.inl hy))] at hv
                     exact fin _ hv)
                  | (have hx : ¬ x < 0 := Int32.not_lt.mpr zc184
                     have hy : nI (A.2.2.2.1 h).2.length < y := Int32.not_le.mp zc211
                     rw [if_neg hx, if_pos (Or.inr (Or.inr hy))] at hv
                     exact fin _ hv)
                  | (have hx : ¬ x < 0 := Int32.not_lt.mpr zc184
                     have hy : ¬ (y < 0 ∨ x < y ∨ nI (A.2.2.2.1 h).2.length < y) := fun z => z.elim zc194 (fun z => z.elim zc200 (fun z => absurd zc211 (Int32.not_le.mpr z)))
                     rw [if_neg hx, if_neg hy] at hv
                     exact fin _ hv)
                · refine g_iload dX11_use_203 rfl ?_
                  refine g_aload_n (i := 0) dX11_use_205 rfl rfl ?_
                  refine gm_get hM (k := 16) dX11_use_206 flX11_47 rfl ?_
                  refine g_iload_n (i := 1) dX11_use_209 rfl rfl ?_
                  refine gm_iald hM dX11_use_210 rfl (hH) ?_
                  refine g_toi (nI (A.2.2.2.1 h).2.length) (by rw [hch]; exact g2) ?_
                  refine g_icmp_le (tgt := 219) dX11_use_211 (by decide) (fun zc211 => ?_) (fun zc211 => ?_)
                  · refine g_iload dX11_use_219 rfl ?_
                    refine g_iret dX11_use_221 rfl ?_
                    first
                    | (have hx : x < 0 := Int32.not_le.mp zc184
                       rw [if_pos hx] at hv
                       exact fin _ hv)
                    | (have hx : ¬ x < 0 := Int32.not_lt.mpr zc184
                       have hy : y < 0 := zc194
                       rw [if_neg hx, if_pos (Or.inl hy)] at hv
                       exact fin _ hv)
                    | (have hx : ¬ x < 0 := Int32.not_lt.mpr zc184
                       have hy : x < y := zc200
                       rw [if_neg hx, if_pos (Or.inr (Or.inl hy))] at hv
                       exact fin _ hv)
                    | (have hx : ¬ x < 0 := Int32.not_lt.mpr zc184
                       have hy : nI (A.2.2.2.1 h).2.length < y := Int32.not_le.mp zc211
                       rw [if_neg hx, if_pos (Or.inr (Or.inr hy))] at hv
                       exact fin _ hv)
                    | (have hx : ¬ x < 0 := Int32.not_lt.mpr zc184
                       have hy : ¬ (y < 0 ∨ x < y ∨ nI (A.2.2.2.1 h).2.length < y) := fun z => z.elim zc194 (fun z => z.elim zc200 (fun z => absurd zc211 (Int32.not_le.mpr z)))
                       rw [if_neg hx, if_neg hy] at hv
                       exact fin _ hv)
                  · refine g_bipush (v := (-13)) dX11_use_214 (by decide) ?_
                    refine g_goto (tgt := 221) dX11_use_216 (by decide) ?_
                    refine g_iret dX11_use_221 rfl ?_
                    first
                    | (have hx : x < 0 := Int32.not_le.mp zc184
                       rw [if_pos hx] at hv
                       exact fin _ hv)
                    | (have hx : ¬ x < 0 := Int32.not_lt.mpr zc184
                       have hy : y < 0 := zc194
                       rw [if_neg hx, if_pos (Or.inl hy)] at hv
                       exact fin _ hv)
                    | (have hx : ¬ x < 0 := Int32.not_lt.mpr zc184
                       have hy : x < y := zc200
                       rw [if_neg hx, if_pos (Or.inr (Or.inl hy))] at hv
                       exact fin _ hv)
                    | (have hx : ¬ x < 0 := Int32.not_lt.mpr zc184
                       have hy : nI (A.2.2.2.1 h).2.length < y := Int32.not_le.mp zc211
                       rw [if_neg hx, if_pos (Or.inr (Or.inr hy))] at hv
                       exact fin _ hv)
                    | (have hx : ¬ x < 0 := Int32.not_lt.mpr zc184
                       have hy : ¬ (y < 0 ∨ x < y ∨ nI (A.2.2.2.1 h).2.length < y) := fun z => z.elim zc194 (fun z => z.elim zc200 (fun z => absurd zc211 (Int32.not_le.mpr z)))
                       rw [if_neg hx, if_neg hy] at hv
                       exact fin _ hv)
            · refine g_bipush (v := (-14)) dX11_use_187 (by decide) ?_
              refine g_goto (tgt := 221) dX11_use_189 (by decide) ?_
              refine g_iret dX11_use_221 rfl ?_
              first
              | (have hx : x < 0 := Int32.not_le.mp zc184
                 rw [if_pos hx] at hv
                 exact fin _ hv)
              | (have hx : ¬ x < 0 := Int32.not_lt.mpr zc184
                 have hy : y < 0 := zc194
                 rw [if_neg hx, if_pos (Or.inl hy)] at hv
                 exact fin _ hv)
              | (have hx : ¬ x < 0 := Int32.not_lt.mpr zc184
                 have hy : x < y := zc200
                 rw [if_neg hx, if_pos (Or.inr (Or.inl hy))] at hv
                 exact fin _ hv)
              | (have hx : ¬ x < 0 := Int32.not_lt.mpr zc184
                 have hy : nI (A.2.2.2.1 h).2.length < y := Int32.not_le.mp zc211
                 rw [if_neg hx, if_pos (Or.inr (Or.inr hy))] at hv
                 exact fin _ hv)
              | (have hx : ¬ x < 0 := Int32.not_lt.mpr zc184
                 have hy : ¬ (y < 0 ∨ x < y ∨ nI (A.2.2.2.1 h).2.length < y) := fun z => z.elim zc194 (fun z => z.elim zc200 (fun z => absurd zc211 (Int32.not_le.mpr z)))
                 rw [if_neg hx, if_neg hy] at hv
                 exact fin _ hv)
        · exact absurd zc130 h1
      · exact absurd zc116 h0
    · exact absurd hK zc103
  have hU9 := fun r e => hU r ((if_neg h0).trans ((if_neg h1).trans ((if_neg h9).trans e)))
  by_cases hp : ¬ inR (A.2.2.2.1 h).2 x ∨ ((how = 7 ∨ how = 8) ∧ ¬ inR (A.2.2.2.1 h).2 y)
  · have hv := hU9 _ (if_pos hp)
    refine g_iload dX11_use_99 rfl ?_
    refine g_iload dX11_use_101 rfl ?_
    refine g_icmp_eq (tgt := 109) dX11_use_103 (by decide) (fun zc103 => ?_) (fun zc103 => ?_)
    · refine g_bipush (v := 100) dX11_use_109 (by decide) ?_
      refine g_iload_n (i := 1) dX11_use_111 rfl rfl ?_
      refine g_imul dX11_use_112 ?_
      rw [ix100z]
      refine g_istore (ls' := [_, _, _, _, _, _, _, _, _, _, _, _]) dX11_use_113 (by decide) rfl rfl ?_
      refine g_iload_n (i := 2) dX11_use_115 rfl rfl ?_
      refine g_if_ne (tgt := 128) dX11_use_116 (by decide) (fun zc116 => ?_) (fun zc116 => ?_)
      · refine g_iload_n (i := 2) dX11_use_128 rfl rfl ?_
        refine g_iconst (v := 1) dX11_use_129 (by decide) ?_
        refine g_icmp_ne (tgt := 177) dX11_use_130 (by decide) (fun zc130 => ?_) (fun zc130 => ?_)
        · refine g_iload_n (i := 2) dX11_use_177 rfl rfl ?_
          refine g_bipush (v := 9) dX11_use_178 (by decide) ?_
          refine g_icmp_ne (tgt := 222) dX11_use_180 (by decide) (fun zc180 => ?_) (fun zc180 => ?_)
          · refine g_aload_n (i := 0) dX11_use_222 rfl rfl ?_
            refine g_iload_n (i := 1) dX11_use_223 rfl rfl ?_
            refine g_iload_n (i := 3) dX11_use_224 rfl rfl ?_
            refine g_callVi (My := mX11_isIn) [_, _] dX11_use_225 lkX11_300 mvX11_isIn rfl hM.1 rfl (c_X11_isIn hM hR hh _) (by decide) (by decide) (by decide) rfl (Nat.le_of_ble_eq_true rfl) (fun zr225 σ zh225 => ?_)
            obtain ⟨rfl, rfl⟩ := zh225
            refine g_if_eq (tgt := 253) dX11_use_228 (by decide) (fun zc228 => ?_) (fun zc228 => ?_)
            · refine g_bipush (v := (-13)) dX11_use_253 (by decide) ?_
              refine g_iret dX11_use_255 rfl ?_
              exact fin _ hv
            · refine g_iload_n (i := 2) dX11_use_231 rfl rfl ?_
              refine g_bipush (v := 7) dX11_use_232 (by decide) ?_
              refine g_icmp_eq (tgt := 243) dX11_use_234 (by decide) (fun zc234 => ?_) (fun zc234 => ?_)
              · refine g_aload_n (i := 0) dX11_use_243 rfl rfl ?_
                refine g_iload_n (i := 1) dX11_use_244 rfl rfl ?_
                refine g_iload dX11_use_245 rfl ?_
                refine g_callVi (My := mX11_isIn) [_, _] dX11_use_247 lkX11_300 mvX11_isIn rfl hM.1 rfl (c_X11_isIn hM hR hh _) (by decide) (by decide) (by decide) rfl (Nat.le_of_ble_eq_true rfl) (fun zr247 σ zh247 => ?_)
                obtain ⟨rfl, rfl⟩ := zh247
                refine g_if_ne (tgt := 256) dX11_use_250 (by decide) (fun zc250 => ?_) (fun zc250 => ?_)
                · exfalso
                  first
                  | exact hp.elim (fun z => z (bI_ne0.mp zc228)) (fun z => z.2 (bI_ne0.mp zc250))
                  | exact hp.elim (fun z => z (bI_ne0.mp zc228)) (fun z => z.1.elim zc234 zc240)
                · refine g_bipush (v := (-13)) dX11_use_253 (by decide) ?_
                  refine g_iret dX11_use_255 rfl ?_
                  exact fin _ hv
              · refine g_iload_n (i := 2) dX11_use_237 rfl rfl ?_
                refine g_bipush (v := 8) dX11_use_238 (by decide) ?_
                refine g_icmp_ne (tgt := 256) dX11_use_240 (by decide) (fun zc240 => ?_) (fun zc240 => ?_)
                · exfalso
                  first
                  | exact hp.elim (fun z => z (bI_ne0.mp zc228)) (fun z => z.2 (bI_ne0.mp zc250))
                  | exact hp.elim (fun z => z (bI_ne0.mp zc228)) (fun z => z.1.elim zc234 zc240)
                · refine g_aload_n (i := 0) dX11_use_243 rfl rfl ?_
                  refine g_iload_n (i := 1) dX11_use_244 rfl rfl ?_
                  refine g_iload dX11_use_245 rfl ?_
                  refine g_callVi (My := mX11_isIn) [_, _] dX11_use_247 lkX11_300 mvX11_isIn rfl hM.1 rfl (c_X11_isIn hM hR hh _) (by decide) (by decide) (by decide) rfl (Nat.le_of_ble_eq_true rfl) (fun zr247 σ zh247 => ?_)
                  obtain ⟨rfl, rfl⟩ := zh247
                  refine g_if_ne (tgt := 256) dX11_use_250 (by decide) (fun zc250 => ?_) (fun zc250 => ?_)
                  · exfalso
                    first
                    | exact hp.elim (fun z => z (bI_ne0.mp zc228)) (fun z => z.2 (bI_ne0.mp zc250))
                    | exact hp.elim (fun z => z (bI_ne0.mp zc228)) (fun z => z.1.elim zc234 zc240)
                  · refine g_bipush (v := (-13)) dX11_use_253 (by decide) ?_
                    refine g_iret dX11_use_255 rfl ?_
                    exact fin _ hv
          · exact absurd zc180 h9
        · exact absurd zc130 h1
      · exact absurd zc116 h0
    · exact absurd hK zc103
  have hxi : inR (A.2.2.2.1 h).2 x := Classical.byContradiction (fun q => hp (Or.inl q))
  have hyi : how = 7 ∨ how = 8 → inR (A.2.2.2.1 h).2 y := fun z => Classical.byContradiction (fun q => hp (Or.inr ⟨z, q⟩))
  obtain ⟨xi, hxl, rfl⟩ := inR_ix g3 hxi
  have hcx : (nI xi).toNatClampNeg = xi := nI_clamp (by omega)
  have hcX : (nI (100 * h + xi)).toNatClampNeg = 100 * h + xi := nI_clamp (by omega)
  have hIX : vp_in (nI (100 * h + xi)) 5800 := vp_in_nI (by omega) (by decide)
  rw [hcx] at hU9
  have hUp := fun r e => hU9 r ((if_neg hp).trans e)
  by_cases h6 : how < 6
  · have hv := hUp _ (if_pos h6)
    refine g_iload dX11_use_99 rfl ?_
    refine g_iload dX11_use_101 rfl ?_
    refine g_icmp_eq (tgt := 109) dX11_use_103 (by decide) (fun zc103 => ?_) (fun zc103 => ?_)
    · refine g_bipush (v := 100) dX11_use_109 (by decide) ?_
      refine g_iload_n (i := 1) dX11_use_111 rfl rfl ?_
      refine g_imul dX11_use_112 ?_
      rw [ix100z]
      refine g_istore (ls' := [_, _, _, _, _, _, _, _, _, _, _, _]) dX11_use_113 (by decide) rfl rfl ?_
      refine g_iload_n (i := 2) dX11_use_115 rfl rfl ?_
      refine g_if_ne (tgt := 128) dX11_use_116 (by decide) (fun zc116 => ?_) (fun zc116 => ?_)
      · refine g_iload_n (i := 2) dX11_use_128 rfl rfl ?_
        refine g_iconst (v := 1) dX11_use_129 (by decide) ?_
        refine g_icmp_ne (tgt := 177) dX11_use_130 (by decide) (fun zc130 => ?_) (fun zc130 => ?_)
        · refine g_iload_n (i := 2) dX11_use_177 rfl rfl ?_
          refine g_bipush (v := 9) dX11_use_178 (by decide) ?_
          refine g_icmp_ne (tgt := 222) dX11_use_180 (by decide) (fun zc180 => ?_) (fun zc180 => ?_)
          · refine g_aload_n (i := 0) dX11_use_222 rfl rfl ?_
            refine g_iload_n (i := 1) dX11_use_223 rfl rfl ?_
            refine g_iload_n (i := 3) dX11_use_224 rfl rfl ?_
            refine g_callVi (My := mX11_isIn) [_, _] dX11_use_225 lkX11_300 mvX11_isIn rfl hM.1 rfl (c_X11_isIn hM hR hh _) (by decide) (by decide) (by decide) rfl (Nat.le_of_ble_eq_true rfl) (fun zr225 σ zh225 => ?_)
            obtain ⟨rfl, rfl⟩ := zh225
            refine g_if_eq (tgt := 253) dX11_use_228 (by decide) (fun zc228 => ?_) (fun zc228 => ?_)
            · exact absurd hxi (bI_eq0.mp zc228)
            · refine g_iload_n (i := 2) dX11_use_231 rfl rfl ?_
              refine g_bipush (v := 7) dX11_use_232 (by decide) ?_
              refine g_icmp_eq (tgt := 243) dX11_use_234 (by decide) (fun zc234 => ?_) (fun zc234 => ?_)
              · refine g_aload_n (i := 0) dX11_use_243 rfl rfl ?_
                refine g_iload_n (i := 1) dX11_use_244 rfl rfl ?_
                refine g_iload dX11_use_245 rfl ?_
                refine g_callVi (My := mX11_isIn) [_, _] dX11_use_247 lkX11_300 mvX11_isIn rfl hM.1 rfl (c_X11_isIn hM hR hh _) (by decide) (by decide) (by decide) rfl (Nat.le_of_ble_eq_true rfl) (fun zr247 σ zh247 => ?_)
                obtain ⟨rfl, rfl⟩ := zh247
                refine g_if_ne (tgt := 256) dX11_use_250 (by decide) (fun zc250 => ?_) (fun zc250 => ?_)
                · refine g_aload_n (i := 0) dX11_use_256 rfl rfl ?_
                  refine gm_get hM (k := 17) dX11_use_257 flX11_50 rfl ?_
                  refine g_iload dX11_use_260 rfl ?_
                  refine g_iload_n (i := 3) dX11_use_262 rfl rfl ?_
                  refine g_iadd dX11_use_263 ?_
                  rw [nI_add]
                  refine gm_lald hM dX11_use_264 rfl (hIX) ?_
                  refine g_tol ((A.2.2.2.1 h).2.getD xi 0) (by rw [hcX]; exact hget xi hxl) ?_
                  refine g_lstore (ls' := [_, _, _, _, _, _, _, _, _, _, _, _]) dX11_use_265 (by decide) rfl rfl ?_
                  refine g_iload_n (i := 2) dX11_use_267 rfl rfl ?_
                  refine g_bipush (v := 6) dX11_use_268 (by decide) ?_
                  refine g_icmp_ge (tgt := 277) dX11_use_270 (by decide) (fun zc270 => ?_) (fun zc270 => ?_)
                  · exact absurd h6 (Int32.not_lt.mpr zc270)
                  · refine g_lload dX11_use_273 rfl ?_
                    refine g_l2i dX11_use_275 ?_
                    refine g_iret dX11_use_276 rfl ?_
                    exact fin _ hv
                · exact absurd (hyi (by first | exact Or.inl zc234 | exact Or.inr zc240)) (bI_eq0.mp zc250)
              · refine g_iload_n (i := 2) dX11_use_237 rfl rfl ?_
                refine g_bipush (v := 8) dX11_use_238 (by decide) ?_
                refine g_icmp_ne (tgt := 256) dX11_use_240 (by decide) (fun zc240 => ?_) (fun zc240 => ?_)
                · refine g_aload_n (i := 0) dX11_use_256 rfl rfl ?_
                  refine gm_get hM (k := 17) dX11_use_257 flX11_50 rfl ?_
                  refine g_iload dX11_use_260 rfl ?_
                  refine g_iload_n (i := 3) dX11_use_262 rfl rfl ?_
                  refine g_iadd dX11_use_263 ?_
                  rw [nI_add]
                  refine gm_lald hM dX11_use_264 rfl (hIX) ?_
                  refine g_tol ((A.2.2.2.1 h).2.getD xi 0) (by rw [hcX]; exact hget xi hxl) ?_
                  refine g_lstore (ls' := [_, _, _, _, _, _, _, _, _, _, _, _]) dX11_use_265 (by decide) rfl rfl ?_
                  refine g_iload_n (i := 2) dX11_use_267 rfl rfl ?_
                  refine g_bipush (v := 6) dX11_use_268 (by decide) ?_
                  refine g_icmp_ge (tgt := 277) dX11_use_270 (by decide) (fun zc270 => ?_) (fun zc270 => ?_)
                  · exact absurd h6 (Int32.not_lt.mpr zc270)
                  · refine g_lload dX11_use_273 rfl ?_
                    refine g_l2i dX11_use_275 ?_
                    refine g_iret dX11_use_276 rfl ?_
                    exact fin _ hv
                · refine g_aload_n (i := 0) dX11_use_243 rfl rfl ?_
                  refine g_iload_n (i := 1) dX11_use_244 rfl rfl ?_
                  refine g_iload dX11_use_245 rfl ?_
                  refine g_callVi (My := mX11_isIn) [_, _] dX11_use_247 lkX11_300 mvX11_isIn rfl hM.1 rfl (c_X11_isIn hM hR hh _) (by decide) (by decide) (by decide) rfl (Nat.le_of_ble_eq_true rfl) (fun zr247 σ zh247 => ?_)
                  obtain ⟨rfl, rfl⟩ := zh247
                  refine g_if_ne (tgt := 256) dX11_use_250 (by decide) (fun zc250 => ?_) (fun zc250 => ?_)
                  · refine g_aload_n (i := 0) dX11_use_256 rfl rfl ?_
                    refine gm_get hM (k := 17) dX11_use_257 flX11_50 rfl ?_
                    refine g_iload dX11_use_260 rfl ?_
                    refine g_iload_n (i := 3) dX11_use_262 rfl rfl ?_
                    refine g_iadd dX11_use_263 ?_
                    rw [nI_add]
                    refine gm_lald hM dX11_use_264 rfl (hIX) ?_
                    refine g_tol ((A.2.2.2.1 h).2.getD xi 0) (by rw [hcX]; exact hget xi hxl) ?_
                    refine g_lstore (ls' := [_, _, _, _, _, _, _, _, _, _, _, _]) dX11_use_265 (by decide) rfl rfl ?_
                    refine g_iload_n (i := 2) dX11_use_267 rfl rfl ?_
                    refine g_bipush (v := 6) dX11_use_268 (by decide) ?_
                    refine g_icmp_ge (tgt := 277) dX11_use_270 (by decide) (fun zc270 => ?_) (fun zc270 => ?_)
                    · exact absurd h6 (Int32.not_lt.mpr zc270)
                    · refine g_lload dX11_use_273 rfl ?_
                      refine g_l2i dX11_use_275 ?_
                      refine g_iret dX11_use_276 rfl ?_
                      exact fin _ hv
                  · exact absurd (hyi (by first | exact Or.inl zc234 | exact Or.inr zc240)) (bI_eq0.mp zc250)
          · exact absurd zc180 h9
        · exact absurd zc130 h1
      · exact absurd zc116 h0
    · exact absurd hK zc103
  by_cases h6' : how = 6
  · have hv := hUp _ ((if_neg h6).trans (if_pos h6'))
    refine g_iload dX11_use_99 rfl ?_
    refine g_iload dX11_use_101 rfl ?_
    refine g_icmp_eq (tgt := 109) dX11_use_103 (by decide) (fun zc103 => ?_) (fun zc103 => ?_)
    · refine g_bipush (v := 100) dX11_use_109 (by decide) ?_
      refine g_iload_n (i := 1) dX11_use_111 rfl rfl ?_
      refine g_imul dX11_use_112 ?_
      rw [ix100z]
      refine g_istore (ls' := [_, _, _, _, _, _, _, _, _, _, _, _]) dX11_use_113 (by decide) rfl rfl ?_
      refine g_iload_n (i := 2) dX11_use_115 rfl rfl ?_
      refine g_if_ne (tgt := 128) dX11_use_116 (by decide) (fun zc116 => ?_) (fun zc116 => ?_)
      · refine g_iload_n (i := 2) dX11_use_128 rfl rfl ?_
        refine g_iconst (v := 1) dX11_use_129 (by decide) ?_
        refine g_icmp_ne (tgt := 177) dX11_use_130 (by decide) (fun zc130 => ?_) (fun zc130 => ?_)
        · refine g_iload_n (i := 2) dX11_use_177 rfl rfl ?_
          refine g_bipush (v := 9) dX11_use_178 (by decide) ?_
          refine g_icmp_ne (tgt := 222) dX11_use_180 (by decide) (fun zc180 => ?_) (fun zc180 => ?_)
          · refine g_aload_n (i := 0) dX11_use_222 rfl rfl ?_
            refine g_iload_n (i := 1) dX11_use_223 rfl rfl ?_
            refine g_iload_n (i := 3) dX11_use_224 rfl rfl ?_
            refine g_callVi (My := mX11_isIn) [_, _] dX11_use_225 lkX11_300 mvX11_isIn rfl hM.1 rfl (c_X11_isIn hM hR hh _) (by decide) (by decide) (by decide) rfl (Nat.le_of_ble_eq_true rfl) (fun zr225 σ zh225 => ?_)
            obtain ⟨rfl, rfl⟩ := zh225
            refine g_if_eq (tgt := 253) dX11_use_228 (by decide) (fun zc228 => ?_) (fun zc228 => ?_)
            · exact absurd hxi (bI_eq0.mp zc228)
            · refine g_iload_n (i := 2) dX11_use_231 rfl rfl ?_
              refine g_bipush (v := 7) dX11_use_232 (by decide) ?_
              refine g_icmp_eq (tgt := 243) dX11_use_234 (by decide) (fun zc234 => ?_) (fun zc234 => ?_)
              · exact absurd (h6'.symm.trans zc234) (by decide)
              · refine g_iload_n (i := 2) dX11_use_237 rfl rfl ?_
                refine g_bipush (v := 8) dX11_use_238 (by decide) ?_
                refine g_icmp_ne (tgt := 256) dX11_use_240 (by decide) (fun zc240 => ?_) (fun zc240 => ?_)
                · refine g_aload_n (i := 0) dX11_use_256 rfl rfl ?_
                  refine gm_get hM (k := 17) dX11_use_257 flX11_50 rfl ?_
                  refine g_iload dX11_use_260 rfl ?_
                  refine g_iload_n (i := 3) dX11_use_262 rfl rfl ?_
                  refine g_iadd dX11_use_263 ?_
                  rw [nI_add]
                  refine gm_lald hM dX11_use_264 rfl (hIX) ?_
                  refine g_tol ((A.2.2.2.1 h).2.getD xi 0) (by rw [hcX]; exact hget xi hxl) ?_
                  refine g_lstore (ls' := [_, _, _, _, _, _, _, _, _, _, _, _]) dX11_use_265 (by decide) rfl rfl ?_
                  refine g_iload_n (i := 2) dX11_use_267 rfl rfl ?_
                  refine g_bipush (v := 6) dX11_use_268 (by decide) ?_
                  refine g_icmp_ge (tgt := 277) dX11_use_270 (by decide) (fun zc270 => ?_) (fun zc270 => ?_)
                  · refine g_iload_n (i := 2) dX11_use_277 rfl rfl ?_
                    refine g_bipush (v := 6) dX11_use_278 (by decide) ?_
                    refine g_icmp_ne (tgt := 309) dX11_use_280 (by decide) (fun zc280 => ?_) (fun zc280 => ?_)
                    · exact absurd h6' zc280
                    · refine g_aload_n (i := 0) dX11_use_283 rfl rfl ?_
                      refine g_bipush (v := 6) dX11_use_284 (by decide) ?_
                      refine g_iload_n (i := 1) dX11_use_286 rfl rfl ?_
                      refine g_iload_n (i := 3) dX11_use_287 rfl rfl ?_
                      refine g_lload dX11_use_288 rfl ?_
                      refine g_callVv (My := mX11_note) [_, _, _, _] dX11_use_290 lkX11_160 mvX11_note rfl hM.1 rfl (c_X11_note hM hR 6 h xi ((A.2.2.2.1 h).2.getD xi 0)) (by decide) (by decide) (by decide) rfl (Nat.le_of_ble_eq_true rfl) (fun σ zh290 => ?_)
                      obtain ⟨S2, k0, hM, hR2, -, -⟩ := zh290
                      have hR2 := hR2.nz (by decide)
                      refine g_aload_n (i := 0) dX11_use_293 rfl rfl ?_
                      refine gm_get hM (k := 17) dX11_use_294 flX11_50 rfl ?_
                      refine g_iload dX11_use_297 rfl ?_
                      refine g_iload_n (i := 3) dX11_use_299 rfl rfl ?_
                      refine g_iadd dX11_use_300 ?_
                      rw [nI_add]
                      refine g_iload dX11_use_301 rfl ?_
                      refine g_i2l dX11_use_303 ?_
                      refine gm_last hM dX11_use_304 rfl (hIX) (fun σ hM => ?_)
                      refine g_lload dX11_use_305 rfl ?_
                      refine g_l2i dX11_use_307 ?_
                      refine g_iret dX11_use_308 rfl ?_
                      rw [hcX] at hM
                      obtain ⟨s1, s2, s3, s4⟩ := hR2.2.2.2.1 h hh
                      refine ⟨_, rfl, by rw [hv], _, hM, ?_⟩
                      rw [hv]
                      refine hookFin hR2 hh (A.2.2.2.1 h).1 ((A.2.2.2.1 h).2.set xi y.toInt64) (by rw [List.length_set]; exact g3) rfl (fun q hq => rfl) (fun q hq => ?_) (fun q => ?_) (fun q => ?_) (fun q hq => ?_) (fun i v hvv => ?_)
                      · simp only [List.mem_cons, List.not_mem_nil, or_false] at hq
                        rcases hq with rfl | rfl | rfl <;> rfl
                      · by_cases e : q = h
                        · subst e; rw [if_pos rfl]; exact s1
                        · rw [if_neg e]; rfl
                      · by_cases e : q = h
                        · subst e; rw [if_pos rfl, List.length_set]; exact s2
                        · rw [if_neg e]; rfl
                      · show vp_updL _ _ _ q = _
                        rw [pk_uLn (by omega)]
                      · show vp_updL _ _ _ (100 * h + i) = _
                        by_cases ei : i = xi
                        · subst ei
                          rw [List.getElem?_set] at hvv
                          simp only [if_true, hxl] at hvv
                          cases hvv
                          rw [pk_uLs]
                        · rw [List.getElem?_set_ne (Ne.symm ei)] at hvv
                          rw [pk_uLn (by omega)]
                          exact s4 i v hvv
                  · exact absurd (Int32.not_le.mp zc270) h6
                · exact absurd (h6'.symm.trans zc240) (by decide)
          · exact absurd zc180 h9
        · exact absurd zc130 h1
      · exact absurd zc116 h0
    · exact absurd hK zc103
  have h78 : how = 7 ∨ how = 8 := by
    obtain ⟨q, hq, rfl⟩ := ixle 10 (by decide) hlo hhi
    rcases Nat.lt_or_ge q 6 with z | z
    · exact absurd (nI_lt (b := 6) z (by decide)) h6
    · rcases (show q = 6 ∨ q = 7 ∨ q = 8 ∨ q = 9 ∨ q = 10 by omega) with rfl | rfl | rfl | rfl | rfl
      · exact absurd rfl h6'
      · exact Or.inl rfl
      · exact Or.inr rfl
      · exact absurd rfl h9
      · exact absurd rfl h10
  obtain ⟨yi, hyl, rfl⟩ := inR_ix g3 (hyi h78)
  have hcy : (nI yi).toNatClampNeg = yi := nI_clamp (by omega)
  have hcY : (nI (100 * h + yi)).toNatClampNeg = 100 * h + yi := nI_clamp (by omega)
  have hIY : vp_in (nI (100 * h + yi)) 5800 := vp_in_nI (by omega) (by decide)
  rw [hcy] at hUp
  have hU6 := fun r e => hUp r ((if_neg h6).trans ((if_neg h6').trans e))
  refine g_iload dX11_use_99 rfl ?_
  refine g_iload dX11_use_101 rfl ?_
  refine g_icmp_eq (tgt := 109) dX11_use_103 (by decide) (fun zc103 => ?_) (fun zc103 => ?_)
  · refine g_bipush (v := 100) dX11_use_109 (by decide) ?_
    refine g_iload_n (i := 1) dX11_use_111 rfl rfl ?_
    refine g_imul dX11_use_112 ?_
    rw [ix100z]
    refine g_istore (ls' := [_, _, _, _, _, _, _, _, _, _, _, _]) dX11_use_113 (by decide) rfl rfl ?_
    refine g_iload_n (i := 2) dX11_use_115 rfl rfl ?_
    refine g_if_ne (tgt := 128) dX11_use_116 (by decide) (fun zc116 => ?_) (fun zc116 => ?_)
    · refine g_iload_n (i := 2) dX11_use_128 rfl rfl ?_
      refine g_iconst (v := 1) dX11_use_129 (by decide) ?_
      refine g_icmp_ne (tgt := 177) dX11_use_130 (by decide) (fun zc130 => ?_) (fun zc130 => ?_)
      · refine g_iload_n (i := 2) dX11_use_177 rfl rfl ?_
        refine g_bipush (v := 9) dX11_use_178 (by decide) ?_
        refine g_icmp_ne (tgt := 222) dX11_use_180 (by decide) (fun zc180 => ?_) (fun zc180 => ?_)
        · refine g_aload_n (i := 0) dX11_use_222 rfl rfl ?_
          refine g_iload_n (i := 1) dX11_use_223 rfl rfl ?_
          refine g_iload_n (i := 3) dX11_use_224 rfl rfl ?_
          refine g_callVi (My := mX11_isIn) [_, _] dX11_use_225 lkX11_300 mvX11_isIn rfl hM.1 rfl (c_X11_isIn hM hR hh _) (by decide) (by decide) (by decide) rfl (Nat.le_of_ble_eq_true rfl) (fun zr225 σ zh225 => ?_)
          obtain ⟨rfl, rfl⟩ := zh225
          refine g_if_eq (tgt := 253) dX11_use_228 (by decide) (fun zc228 => ?_) (fun zc228 => ?_)
          · exact absurd hxi (bI_eq0.mp zc228)
          · refine g_iload_n (i := 2) dX11_use_231 rfl rfl ?_
            refine g_bipush (v := 7) dX11_use_232 (by decide) ?_
            refine g_icmp_eq (tgt := 243) dX11_use_234 (by decide) (fun zc234 => ?_) (fun zc234 => ?_)
            · refine g_aload_n (i := 0) dX11_use_243 rfl rfl ?_
              refine g_iload_n (i := 1) dX11_use_244 rfl rfl ?_
              refine g_iload dX11_use_245 rfl ?_
              refine g_callVi (My := mX11_isIn) [_, _] dX11_use_247 lkX11_300 mvX11_isIn rfl hM.1 rfl (c_X11_isIn hM hR hh _) (by decide) (by decide) (by decide) rfl (Nat.le_of_ble_eq_true rfl) (fun zr247 σ zh247 => ?_)
              obtain ⟨rfl, rfl⟩ := zh247
              refine g_if_ne (tgt := 256) dX11_use_250 (by decide) (fun zc250 => ?_) (fun zc250 => ?_)
              · refine g_aload_n (i := 0) dX11_use_256 rfl rfl ?_
                refine gm_get hM (k := 17) dX11_use_257 flX11_50 rfl ?_
                refine g_iload dX11_use_260 rfl ?_
                refine g_iload_n (i := 3) dX11_use_262 rfl rfl ?_
                refine g_iadd dX11_use_263 ?_
                rw [nI_add]
                refine gm_lald hM dX11_use_264 rfl (hIX) ?_
                refine g_tol ((A.2.2.2.1 h).2.getD xi 0) (by rw [hcX]; exact hget xi hxl) ?_
                refine g_lstore (ls' := [_, _, _, _, _, _, _, _, _, _, _, _]) dX11_use_265 (by decide) rfl rfl ?_
                refine g_iload_n (i := 2) dX11_use_267 rfl rfl ?_
                refine g_bipush (v := 6) dX11_use_268 (by decide) ?_
                refine g_icmp_ge (tgt := 277) dX11_use_270 (by decide) (fun zc270 => ?_) (fun zc270 => ?_)
                · refine g_iload_n (i := 2) dX11_use_277 rfl rfl ?_
                  refine g_bipush (v := 6) dX11_use_278 (by decide) ?_
                  refine g_icmp_ne (tgt := 309) dX11_use_280 (by decide) (fun zc280 => ?_) (fun zc280 => ?_)
                  · refine g_aload_n (i := 0) dX11_use_309 rfl rfl ?_
                    refine gm_get hM (k := 17) dX11_use_310 flX11_50 rfl ?_
                    refine g_iload dX11_use_313 rfl ?_
                    refine g_iload dX11_use_315 rfl ?_
                    refine g_iadd dX11_use_317 ?_
                    rw [nI_add]
                    refine gm_lald hM dX11_use_318 rfl (hIY) ?_
                    refine g_tol ((A.2.2.2.1 h).2.getD yi 0) (by rw [hcY]; exact hget yi hyl) ?_
                    refine g_lstore (ls' := [_, _, _, _, _, _, _, _, _, _, _, _]) dX11_use_319 (by decide) rfl rfl ?_
                    refine g_lload dX11_use_321 rfl ?_
                    refine g_lconst (v := 0) dX11_use_323 (by decide) ?_
                    refine g_lcmp dX11_use_324 ?_
                    refine g_if_ne (tgt := 331) dX11_use_325 (by decide) (fun zc325 => ?_) (fun zc325 => ?_)
                    · have hne : ¬ (A.2.2.2.1 h).2.getD yi 0 = 0 := fun z => zc325 ((lg_cmp_eq _ _).mpr z)
                      refine g_iload_n (i := 2) dX11_use_331 rfl rfl ?_
                      refine g_bipush (v := 7) dX11_use_332 (by decide) ?_
                      refine g_icmp_ne (tgt := 349) dX11_use_334 (by decide) (fun zc334 => ?_) (fun zc334 => ?_)
                      · refine g_lload dX11_use_349 rfl ?_
                        refine g_ldc2 (v := (-1)) dX11_use_351 klX11_202 ?_
                        refine g_lcmp dX11_use_354 ?_
                        refine g_if_ne (tgt := 362) dX11_use_355 (by decide) (fun zc355 => ?_) (fun zc355 => ?_)
                        · refine g_lload dX11_use_362 rfl ?_
                          refine g_lload dX11_use_364 rfl ?_
                          refine g_lrem dX11_use_366 (hne) ?_
                          refine g_l2i dX11_use_367 ?_
                          refine g_iret dX11_use_368 rfl ?_
                          first
                          | exact fin _ (hU6 _ ((if_neg hne).trans (if_pos zc334)))
                          | (have hm1 : (A.2.2.2.1 h).2.getD yi 0 = -1 := (lg_cmp_eq _ _).mp zc355
                             have hv := hU6 _ ((if_neg hne).trans (if_neg zc334))
                             rw [if_pos hm1] at hv
                             exact fin _ hv)
                          | (have hm1 : ¬ (A.2.2.2.1 h).2.getD yi 0 = -1 := fun z => zc355 ((lg_cmp_eq _ _).mpr z)
                             have hv := hU6 _ ((if_neg hne).trans (if_neg zc334))
                             rw [if_neg hm1] at hv
                             exact fin _ hv)
                        · refine g_iconst (v := 0) dX11_use_358 (by decide) ?_
                          refine g_goto (tgt := 368) dX11_use_359 (by decide) ?_
                          refine g_iret dX11_use_368 rfl ?_
                          first
                          | exact fin _ (hU6 _ ((if_neg hne).trans (if_pos zc334)))
                          | (have hm1 : (A.2.2.2.1 h).2.getD yi 0 = -1 := (lg_cmp_eq _ _).mp zc355
                             have hv := hU6 _ ((if_neg hne).trans (if_neg zc334))
                             rw [if_pos hm1] at hv
                             exact fin _ hv)
                          | (have hm1 : ¬ (A.2.2.2.1 h).2.getD yi 0 = -1 := fun z => zc355 ((lg_cmp_eq _ _).mpr z)
                             have hv := hU6 _ ((if_neg hne).trans (if_neg zc334))
                             rw [if_neg hm1] at hv
                             exact fin _ hv)
                      · refine g_aload_n (i := 0) dX11_use_337 rfl rfl ?_
                        refine g_lload dX11_use_338 rfl ?_
                        refine g_lload dX11_use_340 rfl ?_
                        refine g_callVl (My := mX11_signedDivided) [_, _] dX11_use_342 lkX11_240 mvX11_signedDivided rfl hM.1 rfl (c_X11_signedDivided hM _ _ hne) (by decide) (by decide) (by decide) rfl (Nat.le_of_ble_eq_true rfl) (fun zr342 σ zh342 => ?_)
                        obtain ⟨rfl, rfl⟩ := zh342
                        refine g_l2i dX11_use_345 ?_
                        refine g_goto (tgt := 368) dX11_use_346 (by decide) ?_
                        refine g_iret dX11_use_368 rfl ?_
                        first
                        | exact fin _ (hU6 _ ((if_neg hne).trans (if_pos zc334)))
                        | (have hm1 : (A.2.2.2.1 h).2.getD yi 0 = -1 := (lg_cmp_eq _ _).mp zc355
                           have hv := hU6 _ ((if_neg hne).trans (if_neg zc334))
                           rw [if_pos hm1] at hv
                           exact fin _ hv)
                        | (have hm1 : ¬ (A.2.2.2.1 h).2.getD yi 0 = -1 := fun z => zc355 ((lg_cmp_eq _ _).mpr z)
                           have hv := hU6 _ ((if_neg hne).trans (if_neg zc334))
                           rw [if_neg hm1] at hv
                           exact fin _ hv)
                    · refine g_bipush (v := (-16)) dX11_use_328 (by decide) ?_
                      refine g_iret dX11_use_330 rfl ?_
                      exact fin _ (hU6 _ (if_pos ((lg_cmp_eq _ _).mp zc325)))
                  · exact absurd zc280 h6'
                · exact absurd (Int32.not_le.mp zc270) h6
              · exact absurd (hyi h78) (bI_eq0.mp zc250)
            · refine g_iload_n (i := 2) dX11_use_237 rfl rfl ?_
              refine g_bipush (v := 8) dX11_use_238 (by decide) ?_
              refine g_icmp_ne (tgt := 256) dX11_use_240 (by decide) (fun zc240 => ?_) (fun zc240 => ?_)
              · exact absurd h78 (fun z => z.elim zc234 zc240)
              · refine g_aload_n (i := 0) dX11_use_243 rfl rfl ?_
                refine g_iload_n (i := 1) dX11_use_244 rfl rfl ?_
                refine g_iload dX11_use_245 rfl ?_
                refine g_callVi (My := mX11_isIn) [_, _] dX11_use_247 lkX11_300 mvX11_isIn rfl hM.1 rfl (c_X11_isIn hM hR hh _) (by decide) (by decide) (by decide) rfl (Nat.le_of_ble_eq_true rfl) (fun zr247 σ zh247 => ?_)
                obtain ⟨rfl, rfl⟩ := zh247
                refine g_if_ne (tgt := 256) dX11_use_250 (by decide) (fun zc250 => ?_) (fun zc250 => ?_)
                · refine g_aload_n (i := 0) dX11_use_256 rfl rfl ?_
                  refine gm_get hM (k := 17) dX11_use_257 flX11_50 rfl ?_
                  refine g_iload dX11_use_260 rfl ?_
                  refine g_iload_n (i := 3) dX11_use_262 rfl rfl ?_
                  refine g_iadd dX11_use_263 ?_
                  rw [nI_add]
                  refine gm_lald hM dX11_use_264 rfl (hIX) ?_
                  refine g_tol ((A.2.2.2.1 h).2.getD xi 0) (by rw [hcX]; exact hget xi hxl) ?_
                  refine g_lstore (ls' := [_, _, _, _, _, _, _, _, _, _, _, _]) dX11_use_265 (by decide) rfl rfl ?_
                  refine g_iload_n (i := 2) dX11_use_267 rfl rfl ?_
                  refine g_bipush (v := 6) dX11_use_268 (by decide) ?_
                  refine g_icmp_ge (tgt := 277) dX11_use_270 (by decide) (fun zc270 => ?_) (fun zc270 => ?_)
                  · refine g_iload_n (i := 2) dX11_use_277 rfl rfl ?_
                    refine g_bipush (v := 6) dX11_use_278 (by decide) ?_
                    refine g_icmp_ne (tgt := 309) dX11_use_280 (by decide) (fun zc280 => ?_) (fun zc280 => ?_)
                    · refine g_aload_n (i := 0) dX11_use_309 rfl rfl ?_
                      refine gm_get hM (k := 17) dX11_use_310 flX11_50 rfl ?_
                      refine g_iload dX11_use_313 rfl ?_
                      refine g_iload dX11_use_315 rfl ?_
                      refine g_iadd dX11_use_317 ?_
                      rw [nI_add]
                      refine gm_lald hM dX11_use_318 rfl (hIY) ?_
                      refine g_tol ((A.2.2.2.1 h).2.getD yi 0) (by rw [hcY]; exact hget yi hyl) ?_
                      refine g_lstore (ls' := [_, _, _, _, _, _, _, _, _, _, _, _]) dX11_use_319 (by decide) rfl rfl ?_
                      refine g_lload dX11_use_321 rfl ?_
                      refine g_lconst (v := 0) dX11_use_323 (by decide) ?_
                      refine g_lcmp dX11_use_324 ?_
                      refine g_if_ne (tgt := 331) dX11_use_325 (by decide) (fun zc325 => ?_) (fun zc325 => ?_)
                      · have hne : ¬ (A.2.2.2.1 h).2.getD yi 0 = 0 := fun z => zc325 ((lg_cmp_eq _ _).mpr z)
                        refine g_iload_n (i := 2) dX11_use_331 rfl rfl ?_
                        refine g_bipush (v := 7) dX11_use_332 (by decide) ?_
                        refine g_icmp_ne (tgt := 349) dX11_use_334 (by decide) (fun zc334 => ?_) (fun zc334 => ?_)
                        · refine g_lload dX11_use_349 rfl ?_
                          refine g_ldc2 (v := (-1)) dX11_use_351 klX11_202 ?_
                          refine g_lcmp dX11_use_354 ?_
                          refine g_if_ne (tgt := 362) dX11_use_355 (by decide) (fun zc355 => ?_) (fun zc355 => ?_)
                          · refine g_lload dX11_use_362 rfl ?_
                            refine g_lload dX11_use_364 rfl ?_
                            refine g_lrem dX11_use_366 (hne) ?_
                            refine g_l2i dX11_use_367 ?_
                            refine g_iret dX11_use_368 rfl ?_
                            first
                            | exact fin _ (hU6 _ ((if_neg hne).trans (if_pos zc334)))
                            | (have hm1 : (A.2.2.2.1 h).2.getD yi 0 = -1 := (lg_cmp_eq _ _).mp zc355
                               have hv := hU6 _ ((if_neg hne).trans (if_neg zc334))
                               rw [if_pos hm1] at hv
                               exact fin _ hv)
                            | (have hm1 : ¬ (A.2.2.2.1 h).2.getD yi 0 = -1 := fun z => zc355 ((lg_cmp_eq _ _).mpr z)
                               have hv := hU6 _ ((if_neg hne).trans (if_neg zc334))
                               rw [if_neg hm1] at hv
                               exact fin _ hv)
                          · refine g_iconst (v := 0) dX11_use_358 (by decide) ?_
                            refine g_goto (tgt := 368) dX11_use_359 (by decide) ?_
                            refine g_iret dX11_use_368 rfl ?_
                            first
                            | exact fin _ (hU6 _ ((if_neg hne).trans (if_pos zc334)))
                            | (have hm1 : (A.2.2.2.1 h).2.getD yi 0 = -1 := (lg_cmp_eq _ _).mp zc355
                               have hv := hU6 _ ((if_neg hne).trans (if_neg zc334))
                               rw [if_pos hm1] at hv
                               exact fin _ hv)
                            | (have hm1 : ¬ (A.2.2.2.1 h).2.getD yi 0 = -1 := fun z => zc355 ((lg_cmp_eq _ _).mpr z)
                               have hv := hU6 _ ((if_neg hne).trans (if_neg zc334))
                               rw [if_neg hm1] at hv
                               exact fin _ hv)
                        · refine g_aload_n (i := 0) dX11_use_337 rfl rfl ?_
                          refine g_lload dX11_use_338 rfl ?_
                          refine g_lload dX11_use_340 rfl ?_
                          refine g_callVl (My := mX11_signedDivided) [_, _] dX11_use_342 lkX11_240 mvX11_signedDivided rfl hM.1 rfl (c_X11_signedDivided hM _ _ hne) (by decide) (by decide) (by decide) rfl (Nat.le_of_ble_eq_true rfl) (fun zr342 σ zh342 => ?_)
                          obtain ⟨rfl, rfl⟩ := zh342
                          refine g_l2i dX11_use_345 ?_
                          refine g_goto (tgt := 368) dX11_use_346 (by decide) ?_
                          refine g_iret dX11_use_368 rfl ?_
                          first
                          | exact fin _ (hU6 _ ((if_neg hne).trans (if_pos zc334)))
                          | (have hm1 : (A.2.2.2.1 h).2.getD yi 0 = -1 := (lg_cmp_eq _ _).mp zc355
                             have hv := hU6 _ ((if_neg hne).trans (if_neg zc334))
                             rw [if_pos hm1] at hv
                             exact fin _ hv)
                          | (have hm1 : ¬ (A.2.2.2.1 h).2.getD yi 0 = -1 := fun z => zc355 ((lg_cmp_eq _ _).mpr z)
                             have hv := hU6 _ ((if_neg hne).trans (if_neg zc334))
                             rw [if_neg hm1] at hv
                             exact fin _ hv)
                      · refine g_bipush (v := (-16)) dX11_use_328 (by decide) ?_
                        refine g_iret dX11_use_330 rfl ?_
                        exact fin _ (hU6 _ (if_pos ((lg_cmp_eq _ _).mp zc325)))
                    · exact absurd zc280 h6'
                  · exact absurd (Int32.not_le.mp zc270) h6
                · exact absurd (hyi h78) (bI_eq0.mp zc250)
        · exact absurd zc180 h9
      · exact absurd zc130 h1
    · exact absurd zc116 h0
  · exact absurd hK zc103
theorem c_X11_use (hM : Mm σ o ad S) (hR : RepM S A) (hwk : ∀ h, h < 8 → (A.2.2.2.1 h).1 = 1 → (A.2.2.2.1 h).2.length = 2) (h how x y : Int32) : Ct l mX11_use 4 0 0 [.ref o, .int h, .int how, .int x, .int y] σ (pI (mP o ad (sUse A h how x y))) := by
  refine Ct_of moX11_use [some (.ref o), some (.int h), some (.int how), some (.int x), some (.int y), none, none, none, none, none, none, none] rfl (Nat.le_of_ble_eq_true rfl) ?_
  by_cases hh : (¬ h < 0 ∧ h < 8) ∧ (¬ how < 0 ∧ how ≤ 10) ∧ ¬ (how = 9 ∧ 100 < x)
  · obtain ⟨j, hj, rfl⟩ := ix8 hh.1
    have hch : (nI j).toNatClampNeg = j := nI_clamp (by omega)
    have hv : sUse A (nI j) how x y = use1 A j how x y := by
      unfold sUse
      rw [if_pos hh, hch]
    rw [hv]
    have J : G l mX11_use 4 0 0 (pI (mP o ad (use1 A j how x y))) σ 31 [some (.ref o), some (.int (nI j)), some (.int how), some (.int x), some (.int y), none, none, none, none, none, none, none] [] := by
      refine g_aload_n (i := 0) dX11_use_31 rfl rfl ?_
      refine gm_get hM (k := 15) dX11_use_32 flX11_44 rfl ?_
      refine g_iload_n (i := 1) dX11_use_35 rfl rfl ?_
      refine gm_iald hM dX11_use_36 rfl ((vp_in_nI (show j < 58 by omega) (by decide) : vp_in (nI j) 58)) ?_
      refine g_toi (A.2.2.2.1 j).1 (by rw [hch]; exact (hR.2.2.2.1 j hj).1) ?_
      refine g_istore (ls' := [_, _, _, _, _, _, _, _, _, _, _, _]) dX11_use_37 (by decide) rfl rfl ?_
      refine g_iload dX11_use_39 rfl ?_
      refine g_if_ne (tgt := 58) dX11_use_41 (by decide) (fun zc41 => ?_) (fun zc41 => ?_)
      · refine g_iload_n (i := 2) dX11_use_58 rfl rfl ?_
        refine g_bipush (v := 10) dX11_use_59 (by decide) ?_
        refine g_icmp_ne (tgt := 67) dX11_use_61 (by decide) (fun zc61 => ?_) (fun zc61 => ?_)
        · refine g_iload_n (i := 2) dX11_use_67 rfl rfl ?_
          refine g_iconst (v := 2) dX11_use_68 (by decide) ?_
          refine g_icmp_ge (tgt := 76) dX11_use_69 (by decide) (fun zc69 => ?_) (fun zc69 => ?_)
          · refine g_iload_n (i := 2) dX11_use_76 rfl rfl ?_
            refine g_bipush (v := 6) dX11_use_77 (by decide) ?_
            refine g_icmp_ge (tgt := 86) dX11_use_79 (by decide) (fun zc79 => ?_) (fun zc79 => ?_)
            · refine g_iload_n (i := 2) dX11_use_86 rfl rfl ?_
              refine g_bipush (v := 8) dX11_use_87 (by decide) ?_
              refine g_icmp_ne (tgt := 96) dX11_use_89 (by decide) (fun zc89 => ?_) (fun zc89 => ?_)
              · refine g_iconst (v := 2) dX11_use_96 (by decide) ?_
                first
                | refine g_toi (nd how) (show _ = (if how < 2 then (1 : Int32) else if how < 6 then how else if how = 8 then 3 else 2) from Eq.symm (if_pos (Int32.not_le.mp zc69))) ?_
                | refine g_toi (nd how) (show _ = (if how < 2 then (1 : Int32) else if how < 6 then how else if how = 8 then 3 else 2) from Eq.symm ((if_neg (Int32.not_lt.mpr zc69)).trans (if_pos (Int32.not_le.mp zc79)))) ?_
                | refine g_toi (nd how) (show _ = (if how < 2 then (1 : Int32) else if how < 6 then how else if how = 8 then 3 else 2) from Eq.symm ((if_neg (Int32.not_lt.mpr zc69)).trans ((if_neg (Int32.not_lt.mpr zc79)).trans (if_pos zc89)))) ?_
                | refine g_toi (nd how) (show _ = (if how < 2 then (1 : Int32) else if how < 6 then how else if how = 8 then 3 else 2) from Eq.symm ((if_neg (Int32.not_lt.mpr zc69)).trans ((if_neg (Int32.not_lt.mpr zc79)).trans (if_neg zc89)))) ?_
                refine g_istore (ls' := [_, _, _, _, _, _, _, _, _, _, _, _]) dX11_use_97 (by decide) rfl rfl ?_
                exact t99_X11_use hM hR hj (hwk j hj) how x y zc41 zc61 hh.2.1.1 hh.2.1.2
              · refine g_iconst (v := 3) dX11_use_92 (by decide) ?_
                refine g_goto (tgt := 97) dX11_use_93 (by decide) ?_
                first
                | refine g_toi (nd how) (show _ = (if how < 2 then (1 : Int32) else if how < 6 then how else if how = 8 then 3 else 2) from Eq.symm (if_pos (Int32.not_le.mp zc69))) ?_
                | refine g_toi (nd how) (show _ = (if how < 2 then (1 : Int32) else if how < 6 then how else if how = 8 then 3 else 2) from Eq.symm ((if_neg (Int32.not_lt.mpr zc69)).trans (if_pos (Int32.not_le.mp zc79)))) ?_
                | refine g_toi (nd how) (show _ = (if how < 2 then (1 : Int32) else if how < 6 then how else if how = 8 then 3 else 2) from Eq.symm ((if_neg (Int32.not_lt.mpr zc69)).trans ((if_neg (Int32.not_lt.mpr zc79)).trans (if_pos zc89)))) ?_
                | refine g_toi (nd how) (show _ = (if how < 2 then (1 : Int32) else if how < 6 then how else if how = 8 then 3 else 2) from Eq.symm ((if_neg (Int32.not_lt.mpr zc69)).trans ((if_neg (Int32.not_lt.mpr zc79)).trans (if_neg zc89)))) ?_
                refine g_istore (ls' := [_, _, _, _, _, _, _, _, _, _, _, _]) dX11_use_97 (by decide) rfl rfl ?_
                exact t99_X11_use hM hR hj (hwk j hj) how x y zc41 zc61 hh.2.1.1 hh.2.1.2
            · refine g_iload_n (i := 2) dX11_use_82 rfl rfl ?_
              refine g_goto (tgt := 97) dX11_use_83 (by decide) ?_
              first
              | refine g_toi (nd how) (show _ = (if how < 2 then (1 : Int32) else if how < 6 then how else if how = 8 then 3 else 2) from Eq.symm (if_pos (Int32.not_le.mp zc69))) ?_
              | refine g_toi (nd how) (show _ = (if how < 2 then (1 : Int32) else if how < 6 then how else if how = 8 then 3 else 2) from Eq.symm ((if_neg (Int32.not_lt.mpr zc69)).trans (if_pos (Int32.not_le.mp zc79)))) ?_
              | refine g_toi (nd how) (show _ = (if how < 2 then (1 : Int32) else if how < 6 then how else if how = 8 then 3 else 2) from Eq.symm ((if_neg (Int32.not_lt.mpr zc69)).trans ((if_neg (Int32.not_lt.mpr zc79)).trans (if_pos zc89)))) ?_
              | refine g_toi (nd how) (show _ = (if how < 2 then (1 : Int32) else if how < 6 then how else if how = 8 then 3 else 2) from Eq.symm ((if_neg (Int32.not_lt.mpr zc69)).trans ((if_neg (Int32.not_lt.mpr zc79)).trans (if_neg zc89)))) ?_
              refine g_istore (ls' := [_, _, _, _, _, _, _, _, _, _, _, _]) dX11_use_97 (by decide) rfl rfl ?_
              exact t99_X11_use hM hR hj (hwk j hj) how x y zc41 zc61 hh.2.1.1 hh.2.1.2
          · refine g_iconst (v := 1) dX11_use_72 (by decide) ?_
            refine g_goto (tgt := 97) dX11_use_73 (by decide) ?_
            first
            | refine g_toi (nd how) (show _ = (if how < 2 then (1 : Int32) else if how < 6 then how else if how = 8 then 3 else 2) from Eq.symm (if_pos (Int32.not_le.mp zc69))) ?_
            | refine g_toi (nd how) (show _ = (if how < 2 then (1 : Int32) else if how < 6 then how else if how = 8 then 3 else 2) from Eq.symm ((if_neg (Int32.not_lt.mpr zc69)).trans (if_pos (Int32.not_le.mp zc79)))) ?_
            | refine g_toi (nd how) (show _ = (if how < 2 then (1 : Int32) else if how < 6 then how else if how = 8 then 3 else 2) from Eq.symm ((if_neg (Int32.not_lt.mpr zc69)).trans ((if_neg (Int32.not_lt.mpr zc79)).trans (if_pos zc89)))) ?_
            | refine g_toi (nd how) (show _ = (if how < 2 then (1 : Int32) else if how < 6 then how else if how = 8 then 3 else 2) from Eq.symm ((if_neg (Int32.not_lt.mpr zc69)).trans ((if_neg (Int32.not_lt.mpr zc79)).trans (if_neg zc89)))) ?_
            refine g_istore (ls' := [_, _, _, _, _, _, _, _, _, _, _, _]) dX11_use_97 (by decide) rfl rfl ?_
            exact t99_X11_use hM hR hj (hwk j hj) how x y zc41 zc61 hh.2.1.1 hh.2.1.2
        · refine g_bipush (v := (-11)) dX11_use_64 (by decide) ?_
          refine g_iret dX11_use_66 rfl ?_
          refine ⟨_, rfl, ?_, S, hM, ?_⟩
          · unfold use1
            rw [if_neg zc41, if_pos zc61]
          · unfold use1
            rw [if_neg zc41, if_pos zc61]
            exact hR
      · refine g_iload_n (i := 2) dX11_use_44 rfl rfl ?_
        refine g_bipush (v := 10) dX11_use_45 (by decide) ?_
        refine g_icmp_ne (tgt := 55) dX11_use_47 (by decide) (fun zc47 => ?_) (fun zc47 => ?_)
        · refine g_bipush (v := (-12)) dX11_use_55 (by decide) ?_
          refine g_iret dX11_use_57 rfl ?_
          refine ⟨_, rfl, ?_, S, hM, ?_⟩
          · unfold use1
            rw [if_pos zc41]
            first | exact Eq.symm (if_pos zc47) | exact Eq.symm (if_neg zc47)
          · unfold use1
            rw [if_pos zc41]
            exact hR
        · refine g_bipush (v := (-15)) dX11_use_50 (by decide) ?_
          refine g_goto (tgt := 57) dX11_use_52 (by decide) ?_
          refine g_iret dX11_use_57 rfl ?_
          refine ⟨_, rfl, ?_, S, hM, ?_⟩
          · unfold use1
            rw [if_pos zc41]
            first | exact Eq.symm (if_pos zc47) | exact Eq.symm (if_neg zc47)
          · unfold use1
            rw [if_pos zc41]
            exact hR
    refine g_iload_n (i := 1) dX11_use_0 rfl rfl ?_
    refine g_callSi (My := mX11_isHook) [_] dX11_use_1 lkX11_295 mvX11_isHook rfl (c_X11_isHook _) (by decide) (by decide) (by decide) rfl (Nat.le_of_ble_eq_true rfl) (fun zr1 σ zh1 => ?_)
    obtain ⟨rfl, rfl⟩ := zh1
    refine g_if_eq (tgt := 29) dX11_use_4 (by decide) (fun zc4 => ?_) (fun zc4 => ?_)
    · exact absurd hh.1 (bI_eq0.mp zc4)
    · refine g_iload_n (i := 2) dX11_use_7 rfl rfl ?_
      refine g_if_lt (tgt := 29) dX11_use_8 (by decide) (fun zc8 => ?_) (fun zc8 => ?_)
      · exact absurd zc8 hh.2.1.1
      · refine g_iload_n (i := 2) dX11_use_11 rfl rfl ?_
        refine g_bipush (v := 10) dX11_use_12 (by decide) ?_
        refine g_icmp_gt (tgt := 29) dX11_use_14 (by decide) (fun zc14 => ?_) (fun zc14 => ?_)
        · exact absurd zc14 (Int32.not_lt.mpr hh.2.1.2)
        · refine g_iload_n (i := 2) dX11_use_17 rfl rfl ?_
          refine g_bipush (v := 9) dX11_use_18 (by decide) ?_
          refine g_icmp_ne (tgt := 31) dX11_use_20 (by decide) (fun zc20 => ?_) (fun zc20 => ?_)
          · exact J
          · refine g_iload_n (i := 3) dX11_use_23 rfl rfl ?_
            refine g_bipush (v := 100) dX11_use_24 (by decide) ?_
            refine g_icmp_le (tgt := 31) dX11_use_26 (by decide) (fun zc26 => ?_) (fun zc26 => ?_)
            · exact J
            · exact absurd ⟨zc20, Int32.not_le.mp zc26⟩ hh.2.2
  · have hv : sUse A h how x y = (-1, A) := by
      unfold sUse
      rw [if_neg hh]
    rw [hv]
    refine g_iload_n (i := 1) dX11_use_0 rfl rfl ?_
    refine g_callSi (My := mX11_isHook) [_] dX11_use_1 lkX11_295 mvX11_isHook rfl (c_X11_isHook _) (by decide) (by decide) (by decide) rfl (Nat.le_of_ble_eq_true rfl) (fun zr1 σ zh1 => ?_)
    obtain ⟨rfl, rfl⟩ := zh1
    refine g_if_eq (tgt := 29) dX11_use_4 (by decide) (fun zc4 => ?_) (fun zc4 => ?_)
    · refine g_iconst (v := (-1)) dX11_use_29 (by decide) ?_
      refine g_iret dX11_use_30 rfl ?_
      exact ⟨_, rfl, rfl, S, hM, hR⟩
    · refine g_iload_n (i := 2) dX11_use_7 rfl rfl ?_
      refine g_if_lt (tgt := 29) dX11_use_8 (by decide) (fun zc8 => ?_) (fun zc8 => ?_)
      · refine g_iconst (v := (-1)) dX11_use_29 (by decide) ?_
        refine g_iret dX11_use_30 rfl ?_
        exact ⟨_, rfl, rfl, S, hM, hR⟩
      · refine g_iload_n (i := 2) dX11_use_11 rfl rfl ?_
        refine g_bipush (v := 10) dX11_use_12 (by decide) ?_
        refine g_icmp_gt (tgt := 29) dX11_use_14 (by decide) (fun zc14 => ?_) (fun zc14 => ?_)
        · refine g_iconst (v := (-1)) dX11_use_29 (by decide) ?_
          refine g_iret dX11_use_30 rfl ?_
          exact ⟨_, rfl, rfl, S, hM, hR⟩
        · refine g_iload_n (i := 2) dX11_use_17 rfl rfl ?_
          refine g_bipush (v := 9) dX11_use_18 (by decide) ?_
          refine g_icmp_ne (tgt := 31) dX11_use_20 (by decide) (fun zc20 => ?_) (fun zc20 => ?_)
          · exact absurd ⟨bI_ne0.mp zc4, ⟨zc8, Int32.not_lt.mp zc14⟩, fun z => zc20 z.1⟩ hh
          · refine g_iload_n (i := 3) dX11_use_23 rfl rfl ?_
            refine g_bipush (v := 100) dX11_use_24 (by decide) ?_
            refine g_icmp_le (tgt := 31) dX11_use_26 (by decide) (fun zc26 => ?_) (fun zc26 => ?_)
            · exact absurd ⟨bI_ne0.mp zc4, ⟨zc8, Int32.not_lt.mp zc14⟩, fun z => absurd zc26 (Int32.not_le.mpr z.2)⟩ hh
            · refine g_iconst (v := (-1)) dX11_use_29 (by decide) ?_
              refine g_iret dX11_use_30 rfl ?_
              exact ⟨_, rfl, rfl, S, hM, hR⟩
end CMuse
