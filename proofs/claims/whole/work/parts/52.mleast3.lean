/-! the reference: tryStep -/
def TSI (o : Nat) (ad : Nat → Nat) (S0 : mS) (tl : Nat → Int64) (pre : List aSt) (b : bB) (σ : gH) (S : mS) : Prop := Mm σ o ad S ∧ sT S0 S ∧ NWn S tl pre ∧ NWr S pre pre.length ∧ BS S b
theorem NWn.pre {S : mS} {tl : Nat → Int64} {f t : List aSt} (h : NWn S tl (f ++ t)) : NWn S tl f := fun i s hs => h i s (by
  rw [List.getElem?_append_left (List.getElem?_eq_some_iff.mp hs).1]
  exact hs)
theorem NWr.pre {S : mS} {f t : List aSt} {k : Nat} (h : NWr S (f ++ t) k) (hk : f.length ≤ k) : NWr S f f.length := fun i v hi hv => by
  rw [h i v (by omega) hv, opA_app 8 f t (lN v) hi]
theorem NWr.app {S : mS} {f t : List aSt} (h : NWr S f f.length) : NWr S (f ++ t) f.length := fun i v hi hv => by
  rw [h i v hi hv, opA_app 8 f t (lN v) hi]
theorem cN_le {pr : Nat → Nat} : ∀ {f : List aSt}, (∀ s ∈ f, pr s.1.toNatClampNeg ≤ 50) → cN pr f ≤ 50 * f.length := by
  intro f
  induction f with
  | nil => intro _; exact Nat.le_refl _
  | cons s t ih =>
    intro h
    have h1 := h s List.mem_cons_self
    have h2 := ih (fun q hq => h q (List.mem_cons_of_mem _ hq))
    have : cN pr (s :: t) = pr s.1.toNatClampNeg + cN pr t := by simp [cN]
    rw [this, List.length_cons]
    omega
theorem NWn.cost {S S0 : mS} {tl : Nat → Int64} {f : List aSt} (h : NWn S tl f) {pr : Nat → Nat} {cn : Nat → Prop} {dq : Nat → Int64} (hL : LC S0 pr cn dq) : cN pr f ≤ 50 * f.length := cN_le (fun s hs => by
  obtain ⟨i, hi⟩ := List.getElem?_of_mem hs
  obtain ⟨c, x, y, a1, -, -, -, rfl, -⟩ := h i s hi
  show pr (nI c).toNatClampNeg ≤ 50
  rw [nI_clamp (by omega)]
  exact (hL.1 c (by omega)).2.2)
def nw3 (S : mS) (k i x y : Nat) : mS := uI (uI (uI S 32 (upd (S.2.2.1 32) k (nI i))) 33 (upd (S.2.2.1 33) k (nI x))) 34 (upd (S.2.2.1 34) k (nI y))
theorem nw3_ok {o : Nat} {ad : Nat → Nat} {S0 S : mS} {tl : Nat → Int64} {pre : List aSt} {b : bB} {σ σ' : gH} (hT : TSI o ad S0 tl pre b σ S) {i x y : Nat} (hi : i < 13) (hx : x ≤ pre.length) (hy : y < ny i pre.length) (hM : Mm σ' o ad (nw3 S pre.length i x y)) (hk3 : pre.length < 3) : TSI o ad S0 tl pre b σ' (nw3 S pre.length i x y) ∧ NWn (nw3 S pre.length i x y) tl (pre ++ [mkS tl i x y]) := by
  obtain ⟨-, hF, hN, hR, hB⟩ := hT
  have hy4 : y < 4 := by
    unfold ny at hy
    split at hy <;> omega
  have hN0 : NWn (nw3 S pre.length i x y) tl pre := hN.sT (fun q hq j hj => by
    simp only [List.mem_cons, List.not_mem_nil, or_false] at hq
    rcases hq with rfl | rfl | rfl
    · exact pk_un (by omega)
    · exact pk_un (by omega)
    · exact pk_un (by omega))
  refine ⟨⟨hM, ((hF.uI (k := 32) (by decide) _).uI (k := 33) (by decide) _).uI (k := 34) (by decide) _, hN0, hR, hB⟩, ?_⟩
  intro j s hs
  by_cases e : j < pre.length
  · rw [List.getElem?_append_left e] at hs
    exact hN0 j s hs
  · have hj : j = pre.length := by
      have := (List.getElem?_eq_some_iff.mp hs).1
      simp at this
      omega
    subst hj
    simp at hs
    refine ⟨i, x, y, by omega, hx, hy4, fun ho => ?_, hs.symm, pk_us, pk_us, pk_us⟩
    unfold ny at hy
    rw [if_pos ho] at hy
    omega
/-- what tryStep at a place further on does -/
def trP (o : Nat) (ad : Nat → Nat) (S : mS) (tl : Nat → Int64) (f : List aSt) (b : bB) (σ' : gH) : Prop := ∃ S', TSI o ad S tl f b σ' S'
def recT (l : Launch) (o : Nat) (ad : Nat → Nat) (S0 : mS) (tl : Nat → Int64) (pr : Nat → Nat) (cn : Nat → Prop) (dq : Nat → Int64) (st r : Nat) (f : List aSt) : Prop := ∀ (σ : gH) (S : mS) (b : bB), TSI o ad S0 tl f b σ S → Ct l mX11_tryStep (r + 6) 0 0 [.ref o, .int (nI f.length), .int (nI st), .int (nI (cN pr f))] σ (pV (trP o ad S0 tl f (sc (rtF cn dq) pr tl r f b)))
section CMleast3
variable {l : Launch} {o : Nat} {ad : Nat → Nat} {S0 : mS} {tl : Nat → Int64} {pr : Nat → Nat} {cn : Nat → Prop} {dq : Nat → Int64} {pre : List aSt} {st r : Nat} {la : Int32} {post : Option Value → gH → Prop}
theorem bd_X11_try (htl : S0.2.2.2 27 = tl) (hL : LC S0 pr cn dq) (hst : pre.length + 1 + r = st) (hst3 : st ≤ 3) (hla : (r = 0 ∧ la = 1) ∨ (0 < r ∧ la = 0)) (hrec : 0 < r → ∀ s, recT l o ad S0 tl pr cn dq st r (pre ++ [s])) {i x y : Nat} (hi : i < 13) (hx : x ≤ pre.length) (hy : y < ny i pre.length) {b : bB} {σ : gH} {S : mS} (hT : TSI o ad S0 tl pre b σ S) (en : Option Value)
    (kk : ∀ σ' S', TSI o ad S0 tl pre (sc (rtF cn dq) pr tl r (pre ++ [mkS tl i x y]) b) σ' S' → G l mX11_tryStep (r + 7) 0 0 post σ' 174 [some (.ref o), some (.int (nI pre.length)), some (.int (nI st)), some (.int (nI (cN pr pre))), some (.int la), some (.int (nI i)), some (.int (nI (cN pr pre + pr i))), some (.int (nI x)), en, some (.int (nI y))] []) :
    G l mX11_tryStep (r + 7) 0 0 post σ 103 [some (.ref o), some (.int (nI pre.length)), some (.int (nI st)), some (.int (nI (cN pr pre))), some (.int la), some (.int (nI i)), some (.int (nI (cN pr pre + pr i))), some (.int (nI x)), en, some (.int (nI y))] [] := by
  have hT0 := hT
  obtain ⟨hM, hF, hN, hR, hB⟩ := hT
  have hk3 : pre.length < 3 := by omega
  have hI : vp_in (nI pre.length) 3 := vp_in_nI hk3 (by decide)
  have hck : (nI pre.length).toNatClampNeg = pre.length := nI_clamp (by omega)
  have hci : (nI i).toNatClampNeg = i := nI_clamp (by omega)
  have hcn : cN pr (pre ++ [mkS tl i x y]) = cN pr pre + pr i := by
    rw [cN_app]
    show _ + pr (nI i).toNatClampNeg = _
    rw [hci]
  have hb := hB.2.1
  have hpi := (hL.1 i hi).2.2
  have hco := hN.cost hL
  have hcost : cN pr pre + pr i < 2 ^ 31 := by omega
  have hsk : (pre ++ [mkS tl i x y])[pre.length]? = some (mkS tl i x y) := by simp
  have hlen : (pre ++ [mkS tl i x y]).length = pre.length + 1 := by simp
  rcases hla with ⟨rfl, rfl⟩ | ⟨hr0, rfl⟩
  · refine g_aload_n (i := 0) dX11_tryStep_103 rfl rfl ?_
    refine gm_get hM (k := 32) dX11_tryStep_104 flX11_69 rfl ?_
    refine g_iload_n (i := 1) dX11_tryStep_107 rfl rfl ?_
    refine g_iload dX11_tryStep_108 rfl ?_
    refine gm_iast hM dX11_tryStep_110 rfl (hI) (fun σ hM => ?_)
    refine g_aload_n (i := 0) dX11_tryStep_111 rfl rfl ?_
    refine gm_get hM (k := 33) dX11_tryStep_112 flX11_72 rfl ?_
    refine g_iload_n (i := 1) dX11_tryStep_115 rfl rfl ?_
    refine g_iload dX11_tryStep_116 rfl ?_
    refine gm_iast hM dX11_tryStep_118 rfl (hI) (fun σ hM => ?_)
    refine g_aload_n (i := 0) dX11_tryStep_119 rfl rfl ?_
    refine gm_get hM (k := 34) dX11_tryStep_120 flX11_75 rfl ?_
    refine g_iload_n (i := 1) dX11_tryStep_123 rfl rfl ?_
    refine g_iload dX11_tryStep_124 rfl ?_
    refine gm_iast hM dX11_tryStep_126 rfl (hI) (fun σ hM => ?_)
    rw [hck] at hM
    have hM1 : Mm σ o ad (nw3 S pre.length i x y) := hM
    obtain ⟨hT1, hN1⟩ := nw3_ok hT0 hi hx hy hM1 hk3
    obtain ⟨hM, hF1, hN0, hR1, hB1⟩ := hT1
    have hL1 := hL.sT hF1
    have htl1 := (hF1.2.2.2 27 (by decide)).trans htl
    refine g_iload dX11_tryStep_127 rfl ?_
    refine g_aload_n (i := 0) dX11_tryStep_129 rfl rfl ?_
    refine gm_get hM (k := 38) dX11_tryStep_130 flX11_265 rfl ?_
    refine g_toi (nI b.1) hB1.1 ?_
    refine g_icmp_lt (tgt := 139) dX11_tryStep_133 (by decide) (fun zc133 => ?_) (fun zc133 => ?_)
    · refine g_iload dX11_tryStep_139 rfl ?_
      refine g_if_eq (tgt := 154) dX11_tryStep_141 (by decide) (fun zc141 => ?_) (fun zc141 => ?_)
      · exact absurd zc141 (by decide)
      · refine g_aload_n (i := 0) dX11_tryStep_144 rfl rfl ?_
        refine g_iload_n (i := 1) dX11_tryStep_145 rfl rfl ?_
        refine g_iload dX11_tryStep_146 rfl ?_
        refine g_callVv (My := mX11_look) [_, _] dX11_tryStep_148 lkX11_272 mvX11_look rfl hM.1 rfl (c_X11_look htl1 hN1 hk3 hlen hR1.app hL1 hB1 (by rw [hcn]; exact (nI_ltI hcost (by omega)).mp zc133) hM hcn.symm) (by first | decide | omega) (by first | decide | omega) (by first | decide | omega) rfl (Nat.le_of_ble_eq_true rfl) (fun σ zh148 => ?_)
        obtain ⟨S2, hM, hF2, h2, hB2⟩ := zh148
        refine g_goto (tgt := 159) dX11_tryStep_151 (by decide) ?_
        refine g_iload dX11_tryStep_159 rfl ?_
        refine g_if_ne (tgt := 174) dX11_tryStep_161 (by decide) (fun zc161 => ?_) (fun zc161 => ?_)
        · refine kk σ S2 ⟨hM, hF1.tr hF2, hN0.sT (fun q hq j _ => ?_), fun j v hj hv => ?_, hB2⟩
          · rw [h2 q]
            simp only [List.mem_cons, List.not_mem_nil, or_false] at hq ⊢
            omega
          · rw [h2 29 (by decide)]; exact hR1 j v hj hv
        · exact absurd zc161 (by decide)
    · refine g_goto (tgt := 174) dX11_tryStep_136 (by decide) ?_
      refine kk σ (nw3 S pre.length i x y) ?_
      rw [sc_skip _ _ _ _ _ _ (by rw [hcn]; have := (not_congr (nI_ltI hcost (by omega))).mp zc133; omega)]
      exact ⟨hM, hF1, hN0, hR1, hB1⟩
  · refine g_aload_n (i := 0) dX11_tryStep_103 rfl rfl ?_
    refine gm_get hM (k := 32) dX11_tryStep_104 flX11_69 rfl ?_
    refine g_iload_n (i := 1) dX11_tryStep_107 rfl rfl ?_
    refine g_iload dX11_tryStep_108 rfl ?_
    refine gm_iast hM dX11_tryStep_110 rfl (hI) (fun σ hM => ?_)
    refine g_aload_n (i := 0) dX11_tryStep_111 rfl rfl ?_
    refine gm_get hM (k := 33) dX11_tryStep_112 flX11_72 rfl ?_
    refine g_iload_n (i := 1) dX11_tryStep_115 rfl rfl ?_
    refine g_iload dX11_tryStep_116 rfl ?_
    refine gm_iast hM dX11_tryStep_118 rfl (hI) (fun σ hM => ?_)
    refine g_aload_n (i := 0) dX11_tryStep_119 rfl rfl ?_
    refine gm_get hM (k := 34) dX11_tryStep_120 flX11_75 rfl ?_
    refine g_iload_n (i := 1) dX11_tryStep_123 rfl rfl ?_
    refine g_iload dX11_tryStep_124 rfl ?_
    refine gm_iast hM dX11_tryStep_126 rfl (hI) (fun σ hM => ?_)
    rw [hck] at hM
    have hM1 : Mm σ o ad (nw3 S pre.length i x y) := hM
    obtain ⟨hT1, hN1⟩ := nw3_ok hT0 hi hx hy hM1 hk3
    obtain ⟨hM, hF1, hN0, hR1, hB1⟩ := hT1
    have hL1 := hL.sT hF1
    have htl1 := (hF1.2.2.2 27 (by decide)).trans htl
    refine g_iload dX11_tryStep_127 rfl ?_
    refine g_aload_n (i := 0) dX11_tryStep_129 rfl rfl ?_
    refine gm_get hM (k := 38) dX11_tryStep_130 flX11_265 rfl ?_
    refine g_toi (nI b.1) hB1.1 ?_
    refine g_icmp_lt (tgt := 139) dX11_tryStep_133 (by decide) (fun zc133 => ?_) (fun zc133 => ?_)
    · refine g_iload dX11_tryStep_139 rfl ?_
      refine g_if_eq (tgt := 154) dX11_tryStep_141 (by decide) (fun zc141 => ?_) (fun zc141 => ?_)
      · refine g_aload_n (i := 0) dX11_tryStep_154 rfl rfl ?_
        refine g_iload_n (i := 1) dX11_tryStep_155 rfl rfl ?_
        refine g_callVv (My := mX11_fill) [_] dX11_tryStep_156 lkX11_275 mvX11_fill rfl hM.1 rfl (c_X11_fill hM htl1 hN1 hk3 hR1.app hsk) (by first | decide | omega) (by first | decide | omega) (by first | decide | omega) rfl (Nat.le_of_ble_eq_true rfl) (fun σ zh156 => ?_)
        obtain ⟨ga, hM, hR2⟩ := zh156
        refine g_iload dX11_tryStep_159 rfl ?_
        refine g_if_ne (tgt := 174) dX11_tryStep_161 (by decide) (fun zc161 => ?_) (fun zc161 => ?_)
        · exact absurd rfl zc161
        · refine g_aload_n (i := 0) dX11_tryStep_164 rfl rfl ?_
          refine g_iload_n (i := 1) dX11_tryStep_165 rfl rfl ?_
          refine g_iconst (v := 1) dX11_tryStep_166 (by decide) ?_
          refine g_iadd dX11_tryStep_167 ?_
          rw [nI_1]
          refine g_iload_n (i := 2) dX11_tryStep_168 rfl rfl ?_
          refine g_iload dX11_tryStep_169 rfl ?_
          refine g_callVv (My := mX11_tryStep) [_, _, _] dX11_tryStep_171 lkX11_278 mvX11_tryStep rfl hM.1 rfl (by have h := hrec hr0 (mkS tl i x y) σ _ b ⟨hM, hF1.uI (by decide) _, hN1.sT (fun q hq j _ => by (simp only [List.mem_cons, List.not_mem_nil, or_false] at hq; rcases hq with rfl | rfl | rfl <;> rfl)), by rw [hlen]; exact hR2, hB1⟩; rw [hlen, hcn] at h; exact h) (by first | decide | omega) (by first | decide | omega) (by first | decide | omega) rfl (Nat.le_of_ble_eq_true rfl) (fun σ zh171 => ?_)
          obtain ⟨S3, hM, hF3, hN3, hR3, hB3⟩ := zh171
          exact kk σ S3 ⟨hM, hF3, hN3.pre, hR3.pre (by rw [hlen]; omega), hB3⟩
      · exact absurd rfl zc141
    · refine g_goto (tgt := 174) dX11_tryStep_136 (by decide) ?_
      refine kk σ (nw3 S pre.length i x y) ?_
      rw [sc_skip _ _ _ _ _ _ (by rw [hcn]; have := (not_congr (nI_ltI hcost (by omega))).mp zc133; omega)]
      exact ⟨hM, hF1, hN0, hR1, hB1⟩
theorem ly_X11_try (htl : S0.2.2.2 27 = tl) (hL : LC S0 pr cn dq) (hst : pre.length + 1 + r = st) (hst3 : st ≤ 3) (hla : (r = 0 ∧ la = 1) ∨ (0 < r ∧ la = 0)) (hrec : 0 < r → ∀ s, recT l o ad S0 tl pr cn dq st r (pre ++ [s])) {i x E : Nat} (hi : i < 13) (hx : x ≤ pre.length) (hE : E + 1 = ny i pre.length) :
    ∀ (n y : Nat) (b : bB) (σ : gH) (S : mS), y + n = ny i pre.length → TSI o ad S0 tl pre b σ S →
    (∀ σ' S' v9, TSI o ad S0 tl pre (fY (sc (rtF cn dq) pr tl r) tl pre i x (List.range' y n) b) σ' S' → G l mX11_tryStep (r + 7) 0 0 post σ' 180 [some (.ref o), some (.int (nI pre.length)), some (.int (nI st)), some (.int (nI (cN pr pre))), some (.int la), some (.int (nI i)), some (.int (nI (cN pr pre + pr i))), some (.int (nI x)), some (.int (nI E)), v9] []) →
    G l mX11_tryStep (r + 7) 0 0 post σ 74 [some (.ref o), some (.int (nI pre.length)), some (.int (nI st)), some (.int (nI (cN pr pre))), some (.int la), some (.int (nI i)), some (.int (nI (cN pr pre + pr i))), some (.int (nI x)), some (.int (nI E)), some (.int (nI y))] [] := by
  have hE4 : E < 4 := by
    unfold ny at hE
    split at hE <;> omega
  intro n
  induction n with
  | zero =>
    intro y b σ S hy hT kk
    obtain ⟨hM, hT'⟩ := hT
    refine g_iload dX11_tryStep_74 rfl ?_
    refine g_iload dX11_tryStep_76 rfl ?_
    refine g_icmp_gt (tgt := 180) dX11_tryStep_78 (by decide) (fun zc78 => ?_) (fun zc78 => ?_)
    · exact kk σ S _ ⟨hM, hT'⟩
    · exact absurd (nI_lt (show E < y by omega) (by omega)) zc78
  | succ n ih =>
    intro y b σ S hy hT kk
    have hT0 := hT
    obtain ⟨hM, hF, hN, hR, hB⟩ := hT
    have t174 : ∀ (σ' : gH) (S' : mS) (b' : bB), TSI o ad S0 tl pre b' σ' S' → fY (sc (rtF cn dq) pr tl r) tl pre i x (List.range' y (n + 1)) b = fY (sc (rtF cn dq) pr tl r) tl pre i x (List.range' (y + 1) n) b' → G l mX11_tryStep (r + 7) 0 0 post σ' 174 [some (.ref o), some (.int (nI pre.length)), some (.int (nI st)), some (.int (nI (cN pr pre))), some (.int la), some (.int (nI i)), some (.int (nI (cN pr pre + pr i))), some (.int (nI x)), some (.int (nI E)), some (.int (nI y))] [] := by
      intro σ' S' b' hT' e
      refine g_iinc (v := _ + 1) (ls' := [_, _, _, _, _, _, _, _, _, _]) dX11_tryStep_174 rfl rfl (by decide) rfl rfl ?_
      refine g_goto (tgt := 74) dX11_tryStep_177 (by decide) ?_
      refine g_cl (by rw [nI_1]) (ih (y + 1) b' σ' S' (by omega) hT' (fun σ2 S2 v9 h => kk σ2 S2 v9 (by rw [e]; exact h)))
    have htS : S.2.2.2 27 = tl := (hF.2.2.2 27 (by decide)).trans htl
    refine g_iload dX11_tryStep_74 rfl ?_
    refine g_iload dX11_tryStep_76 rfl ?_
    refine g_icmp_gt (tgt := 180) dX11_tryStep_78 (by decide) (fun zc78 => ?_) (fun zc78 => ?_)
    · exact absurd zc78 (nI_nlt (show y ≤ E by omega) (by omega))
    · refine g_iload dX11_tryStep_81 rfl ?_
      refine g_callSi (My := mX11_takesOperand) [_] dX11_tryStep_83 lkX11_132 mvX11_takesOperand rfl (c_X11_takesOperand _) (by first | decide | omega) (by first | decide | omega) (by first | decide | omega) rfl (Nat.le_of_ble_eq_true rfl) (fun zr83 σ zh83 => ?_)
      obtain ⟨rfl, rfl⟩ := zh83
      refine g_if_ne (tgt := 103) dX11_tryStep_86 (by decide) (fun zc86 => ?_) (fun zc86 => ?_)
      · have hpy : pY tl i y := by
          first
          | exact Or.inl (bI_ne0.mp zc86)
          | (refine Or.inr ?_; have q := bI_ne0.mp zc97; rw [htS] at q; exact q)
        refine bd_X11_try htl hL hst hst3 hla hrec hi hx (by omega) hT0 _ (fun σ' S' h => t174 σ' S' _ h ?_)
        rw [List.range'_succ, fY_t hpy]
      · refine g_aload_n (i := 0) dX11_tryStep_89 rfl rfl ?_
        refine g_iload dX11_tryStep_90 rfl ?_
        refine g_iload dX11_tryStep_92 rfl ?_
        refine g_callVi (My := mX11_mayBe) [_, _] dX11_tryStep_94 lkX11_268 mvX11_mayBe rfl hM.1 rfl (c_X11_mayBe hM _ (show y < 4 by omega)) (by first | decide | omega) (by first | decide | omega) (by first | decide | omega) rfl (Nat.le_of_ble_eq_true rfl) (fun zr94 σ zh94 => ?_)
        obtain ⟨rfl, rfl⟩ := zh94
        refine g_if_ne (tgt := 103) dX11_tryStep_97 (by decide) (fun zc97 => ?_) (fun zc97 => ?_)
        · have hpy : pY tl i y := by
            first
            | exact Or.inl (bI_ne0.mp zc86)
            | (refine Or.inr ?_; have q := bI_ne0.mp zc97; rw [htS] at q; exact q)
          refine bd_X11_try htl hL hst hst3 hla hrec hi hx (by omega) hT0 _ (fun σ' S' h => t174 σ' S' _ h ?_)
          rw [List.range'_succ, fY_t hpy]
        · refine g_goto (tgt := 174) dX11_tryStep_100 (by decide) ?_
          refine t174 _ _ _ hT0 ?_
          rw [List.range'_succ, fY_f (fun z => z.elim (bI_eq0.mp zc86) (fun q => bI_eq0.mp zc97 (by rw [htS]; exact q)))]
theorem lx_X11_try (htl : S0.2.2.2 27 = tl) (hL : LC S0 pr cn dq) (hst : pre.length + 1 + r = st) (hst3 : st ≤ 3) (hla : (r = 0 ∧ la = 1) ∨ (0 < r ∧ la = 0)) (hrec : 0 < r → ∀ s, recT l o ad S0 tl pr cn dq st r (pre ++ [s])) {i : Nat} (hi : i < 13) :
    ∀ (n x : Nat) (b : bB) (σ : gH) (S : mS) (x8 x9 : Option Value), x + n = pre.length + 1 → TSI o ad S0 tl pre b σ S →
    (∀ σ' S' v7 v8 v9, TSI o ad S0 tl pre (fX (sc (rtF cn dq) pr tl r) tl pre i (List.range' x n) b) σ' S' → G l mX11_tryStep (r + 7) 0 0 post σ' 186 [some (.ref o), some (.int (nI pre.length)), some (.int (nI st)), some (.int (nI (cN pr pre))), some (.int la), some (.int (nI i)), some (.int (nI (cN pr pre + pr i))), v7, v8, v9] []) →
    G l mX11_tryStep (r + 7) 0 0 post σ 50 [some (.ref o), some (.int (nI pre.length)), some (.int (nI st)), some (.int (nI (cN pr pre))), some (.int la), some (.int (nI i)), some (.int (nI (cN pr pre + pr i))), some (.int (nI x)), x8, x9] [] := by
  intro n
  induction n with
  | zero =>
    intro x b σ S x8 x9 hx hT kk
    obtain ⟨hM, hT'⟩ := hT
    refine g_iload dX11_tryStep_50 rfl ?_
    refine g_iload_n (i := 1) dX11_tryStep_52 rfl rfl ?_
    refine g_icmp_gt (tgt := 186) dX11_tryStep_53 (by decide) (fun zc53 => ?_) (fun zc53 => ?_)
    · exact kk σ S _ _ _ ⟨hM, hT'⟩
    · exact absurd (nI_lt (show pre.length < x by omega) (by omega)) zc53
  | succ n ih =>
    intro x b σ S x8 x9 hx hT kk
    have hT0 := hT
    obtain ⟨hM, hF, hN, hR, hB⟩ := hT
    have t180 : ∀ (E : Nat) (σ' : gH) (S' : mS) (v9 : Option Value), TSI o ad S0 tl pre (fY (sc (rtF cn dq) pr tl r) tl pre i x (List.range' 0 (ny i pre.length)) b) σ' S' → G l mX11_tryStep (r + 7) 0 0 post σ' 180 [some (.ref o), some (.int (nI pre.length)), some (.int (nI st)), some (.int (nI (cN pr pre))), some (.int la), some (.int (nI i)), some (.int (nI (cN pr pre + pr i))), some (.int (nI x)), some (.int (nI E)), v9] [] := by
      intro E σ' S' v9 hT'
      refine g_iinc (v := _ + 1) (ls' := [_, _, _, _, _, _, _, _, _, _]) dX11_tryStep_180 rfl rfl (by decide) rfl rfl ?_
      refine g_goto (tgt := 50) dX11_tryStep_183 (by decide) ?_
      refine g_cl (by rw [nI_1]) (ih (x + 1) _ σ' S' _ _ (by omega) hT' (fun σ2 S2 v7 v8 v9 h => kk σ2 S2 v7 v8 v9 (by rw [List.range'_succ]; exact h)))
    refine g_iload dX11_tryStep_50 rfl ?_
    refine g_iload_n (i := 1) dX11_tryStep_52 rfl rfl ?_
    refine g_icmp_gt (tgt := 186) dX11_tryStep_53 (by decide) (fun zc53 => ?_) (fun zc53 => ?_)
    · exact absurd zc53 (nI_nlt (show x ≤ pre.length by omega) (by omega))
    · refine g_iload dX11_tryStep_56 rfl ?_
      refine g_callSi (My := mX11_takesOperand) [_] dX11_tryStep_58 lkX11_132 mvX11_takesOperand rfl (c_X11_takesOperand _) (by first | decide | omega) (by first | decide | omega) (by first | decide | omega) rfl (Nat.le_of_ble_eq_true rfl) (fun zr58 σ zh58 => ?_)
      obtain ⟨rfl, rfl⟩ := zh58
      refine g_if_eq (tgt := 68) dX11_tryStep_61 (by decide) (fun zc61 => ?_) (fun zc61 => ?_)
      · refine g_iconst (v := 3) dX11_tryStep_68 (by decide) ?_
        refine g_istore (ls' := [_, _, _, _, _, _, _, _, _, _]) dX11_tryStep_69 (by decide) rfl rfl ?_
        refine g_iconst (v := 0) dX11_tryStep_71 (by decide) ?_
        refine g_istore (ls' := [_, _, _, _, _, _, _, _, _, _]) dX11_tryStep_72 (by decide) rfl rfl ?_
        first
        | exact ly_X11_try htl hL hst hst3 hla hrec hi (by omega) (E := pre.length) (by unfold ny; rw [if_pos (bI_ne0.mp zc61)]) _ 0 b _ S (Nat.zero_add _) hT0 (t180 _)
        | exact ly_X11_try htl hL hst hst3 hla hrec hi (by omega) (E := 3) (by unfold ny; rw [if_neg (bI_eq0.mp zc61)]) _ 0 b _ S (Nat.zero_add _) hT0 (t180 _)
      · refine g_iload_n (i := 1) dX11_tryStep_64 rfl rfl ?_
        refine g_goto (tgt := 69) dX11_tryStep_65 (by decide) ?_
        refine g_istore (ls' := [_, _, _, _, _, _, _, _, _, _]) dX11_tryStep_69 (by decide) rfl rfl ?_
        refine g_iconst (v := 0) dX11_tryStep_71 (by decide) ?_
        refine g_istore (ls' := [_, _, _, _, _, _, _, _, _, _]) dX11_tryStep_72 (by decide) rfl rfl ?_
        first
        | exact ly_X11_try htl hL hst hst3 hla hrec hi (by omega) (E := pre.length) (by unfold ny; rw [if_pos (bI_ne0.mp zc61)]) _ 0 b _ S (Nat.zero_add _) hT0 (t180 _)
        | exact ly_X11_try htl hL hst hst3 hla hrec hi (by omega) (E := 3) (by unfold ny; rw [if_neg (bI_eq0.mp zc61)]) _ 0 b _ S (Nat.zero_add _) hT0 (t180 _)
theorem lk_X11_try (htl : S0.2.2.2 27 = tl) (hL : LC S0 pr cn dq) (hst : pre.length + 1 + r = st) (hst3 : st ≤ 3) (hla : (r = 0 ∧ la = 1) ∨ (0 < r ∧ la = 0)) (hrec : 0 < r → ∀ s, recT l o ad S0 tl pr cn dq st r (pre ++ [s])) :
    ∀ (n i : Nat) (b : bB) (σ : gH) (S : mS) (x6 x7 x8 x9 : Option Value), i + n = 13 → TSI o ad S0 tl pre b σ S →
    (∀ σ' S', TSI o ad S0 tl pre (fK (sc (rtF cn dq) pr tl r) tl pre (List.range' i n) b) σ' S' → post none σ') →
    G l mX11_tryStep (r + 7) 0 0 post σ 17 [some (.ref o), some (.int (nI pre.length)), some (.int (nI st)), some (.int (nI (cN pr pre))), some (.int la), some (.int (nI i)), x6, x7, x8, x9] [] := by
  intro n
  induction n with
  | zero =>
    intro i b σ S x6 x7 x8 x9 hi hT kk
    obtain ⟨hM, hT'⟩ := hT
    obtain rfl : i = 13 := by omega
    refine g_iload dX11_tryStep_17 rfl ?_
    refine g_bipush (v := 13) dX11_tryStep_19 (by decide) ?_
    refine g_icmp_ge (tgt := 192) dX11_tryStep_21 (by decide) (fun zc21 => ?_) (fun zc21 => ?_)
    · refine g_vret dX11_tryStep_192 rfl ?_
      exact kk σ S ⟨hM, hT'⟩
    · exact absurd (by decide) zc21
  | succ n ih =>
    intro i b σ S x6 x7 x8 x9 hi hT kk
    have hT0 := hT
    obtain ⟨hM, hF, hN, hR, hB⟩ := hT
    have hi13 : i < 13 := by omega
    have hb := hB.2.1
    have hco := hN.cost hL
    have hpi := hL.1 i hi13
    have hci : (nI i).toNatClampNeg = i := nI_clamp (by omega)
    have t186 : ∀ (σ' : gH) (S' : mS) (v6 v7 v8 v9 : Option Value), TSI o ad S0 tl pre (fX (sc (rtF cn dq) pr tl r) tl pre i (List.range' 0 (pre.length + 1)) b) σ' S' → G l mX11_tryStep (r + 7) 0 0 post σ' 186 [some (.ref o), some (.int (nI pre.length)), some (.int (nI st)), some (.int (nI (cN pr pre))), some (.int la), some (.int (nI i)), v6, v7, v8, v9] [] := by
      intro σ' S' v6 v7 v8 v9 hT'
      refine g_iinc (v := _ + 1) (ls' := [_, _, _, _, _, _, _, _, _, _]) dX11_tryStep_186 rfl rfl (by decide) rfl rfl ?_
      refine g_goto (tgt := 17) dX11_tryStep_189 (by decide) ?_
      refine g_cl (by rw [nI_1]) (ih (i + 1) _ σ' S' _ _ _ _ (by omega) hT' (fun σ2 S2 h => kk σ2 S2 (by rw [List.range'_succ]; exact h)))
    refine g_iload dX11_tryStep_17 rfl ?_
    refine g_bipush (v := 13) dX11_tryStep_19 (by decide) ?_
    refine g_icmp_ge (tgt := 192) dX11_tryStep_21 (by decide) (fun zc21 => ?_) (fun zc21 => ?_)
    · exact absurd zc21 (nI_ge (b := 13) hi13 (by decide))
    · refine g_iload_n (i := 3) dX11_tryStep_24 rfl rfl ?_
      refine g_aload_n (i := 0) dX11_tryStep_25 rfl rfl ?_
      refine gm_get hM (k := 8) dX11_tryStep_26 flX11_26 rfl ?_
      refine g_iload dX11_tryStep_29 rfl ?_
      refine gm_iald hM dX11_tryStep_31 rfl ((vp_in_nI hi13 (by decide) : vp_in (nI i) 13)) ?_
      refine g_toi (nI (pr i)) (by rw [hci, hF.2.2.1 8 (by decide)]; exact hpi.1) ?_
      refine g_iadd dX11_tryStep_32 ?_
      rw [nI_add]
      refine g_istore (ls' := [_, _, _, _, _, _, _, _, _, _]) dX11_tryStep_33 (by decide) rfl rfl ?_
      refine g_iload dX11_tryStep_35 rfl ?_
      refine g_aload_n (i := 0) dX11_tryStep_37 rfl rfl ?_
      refine gm_get hM (k := 38) dX11_tryStep_38 flX11_265 rfl ?_
      refine g_toi (nI b.1) hB.1 ?_
      refine g_icmp_lt (tgt := 47) dX11_tryStep_41 (by decide) (fun zc41 => ?_) (fun zc41 => ?_)
      · refine g_iconst (v := 0) dX11_tryStep_47 (by decide) ?_
        refine g_istore (ls' := [_, _, _, _, _, _, _, _, _, _]) dX11_tryStep_48 (by decide) rfl rfl ?_
        exact lx_X11_try htl hL hst hst3 hla hrec hi13 _ 0 b _ S _ _ (Nat.zero_add _) hT0 (fun σ' S' v7 v8 v9 h => t186 σ' S' _ v7 v8 v9 h)
      · refine g_goto (tgt := 186) dX11_tryStep_44 (by decide) ?_
        refine t186 σ S _ _ _ _ ?_
        rw [fX_sk (fun x y => sc_skip _ _ _ _ _ _ ?_)]
        · exact hT0
        · rw [cN_app]
          show _ ≤ _ + pr (nI i).toNatClampNeg
          rw [hci]
          have := (not_congr (nI_ltI (show cN pr pre + pr i < 2 ^ 31 by omega) (by omega))).mp zc41
          omega
theorem c_X11_tryStep (htl : S0.2.2.2 27 = tl) (hL : LC S0 pr cn dq) (hst3 : st ≤ 3) : ∀ (r : Nat) (pre : List aSt), pre.length + 1 + r = st → recT l o ad S0 tl pr cn dq st (r + 1) pre := by
  intro r
  induction r with
  | zero =>
    intro pre hst σ S b hT
    have hM := hT.1
    obtain ⟨k, hk⟩ : ∃ k, k = pre.length := ⟨_, rfl⟩
    obtain ⟨c, hc⟩ : ∃ c, c = cN pr pre := ⟨_, rfl⟩
    rw [← hk, ← hc]
    refine Ct_of moX11_tryStep [some (.ref o), some (.int (nI k)), some (.int (nI st)), some (.int (nI c)), none, none, none, none, none, none] rfl (Nat.le_of_ble_eq_true rfl) ?_
    have hst' : st = k + 1 := by omega
    refine g_iload_n (i := 1) dX11_tryStep_0 rfl rfl ?_
    refine g_iload_n (i := 2) dX11_tryStep_1 rfl rfl ?_
    refine g_iconst (v := 1) dX11_tryStep_2 (by decide) ?_
    refine g_isub dX11_tryStep_3 ?_
    rw [hst', nI_pred]
    refine g_icmp_ne (tgt := 11) dX11_tryStep_4 (by decide) (fun zc4 => ?_) (fun zc4 => ?_)
    · exact absurd rfl zc4
    · refine g_iconst (v := 1) dX11_tryStep_7 (by decide) ?_
      refine g_goto (tgt := 12) dX11_tryStep_8 (by decide) ?_
      refine g_istore (ls' := [_, _, _, _, _, _, _, _, _, _]) dX11_tryStep_12 (by decide) rfl rfl ?_
      refine g_iconst (v := 0) dX11_tryStep_14 (by decide) ?_
      refine g_istore (ls' := [_, _, _, _, _, _, _, _, _, _]) dX11_tryStep_15 (by decide) rfl rfl ?_
      rw [← hst']
      subst hk hc
      refine lk_X11_try (r := 0) htl hL hst hst3 (Or.inl ⟨rfl, rfl⟩) (fun q => absurd q (Nat.lt_irrefl _)) 13 0 b σ S _ _ _ _ (by omega) hT (fun σ' S' h => ⟨rfl, S', h⟩)
  | succ r ih =>
    intro pre hst σ S b hT
    have hM := hT.1
    obtain ⟨k, hk⟩ : ∃ k, k = pre.length := ⟨_, rfl⟩
    obtain ⟨c, hc⟩ : ∃ c, c = cN pr pre := ⟨_, rfl⟩
    rw [← hk, ← hc]
    refine Ct_of moX11_tryStep [some (.ref o), some (.int (nI k)), some (.int (nI st)), some (.int (nI c)), none, none, none, none, none, none] rfl (Nat.le_of_ble_eq_true rfl) ?_
    obtain ⟨q, hq⟩ : ∃ q, q + 1 = st := ⟨st - 1, by omega⟩
    refine g_iload_n (i := 1) dX11_tryStep_0 rfl rfl ?_
    refine g_iload_n (i := 2) dX11_tryStep_1 rfl rfl ?_
    refine g_iconst (v := 1) dX11_tryStep_2 (by decide) ?_
    refine g_isub dX11_tryStep_3 ?_
    rw [← hq, nI_pred]
    refine g_icmp_ne (tgt := 11) dX11_tryStep_4 (by decide) (fun zc4 => ?_) (fun zc4 => ?_)
    · refine g_iconst (v := 0) dX11_tryStep_11 (by decide) ?_
      refine g_istore (ls' := [_, _, _, _, _, _, _, _, _, _]) dX11_tryStep_12 (by decide) rfl rfl ?_
      refine g_iconst (v := 0) dX11_tryStep_14 (by decide) ?_
      refine g_istore (ls' := [_, _, _, _, _, _, _, _, _, _]) dX11_tryStep_15 (by decide) rfl rfl ?_
      subst hk hc
      rw [hq]
      refine lk_X11_try (r := r + 1) htl hL hst hst3 (Or.inr ⟨Nat.succ_pos _, rfl⟩) (fun _ s => ih (pre ++ [s]) (by simp; omega)) 13 0 b σ S _ _ _ _ (by omega) hT (fun σ' S' h => ⟨rfl, S', h⟩)
    · exact absurd ((nI_eq (by omega) (by omega)).mp zc4) (by omega)
end CMleast3
