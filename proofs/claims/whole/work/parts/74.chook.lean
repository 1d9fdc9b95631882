/-! the class: hook -/
theorem va_back (f : Nat → Nat) (h b : Nat) : va_up (va_up f h b) h (f h) = f := by
  funext q
  by_cases e : q = h
  · subst e; rw [va_up_self]
  · rw [va_up_ne _ _ e, va_up_ne _ _ e]
theorem RCx.hook {σ σ1 σ3 : gH} {ow : Nat → Nat} {x : Nat} {A : aA} {ad hk : Nat → Nat} {cs : List cA} {ff : Nat → Option Nat} (q : RCx σ ow x A ad hk cs ff) {h b : Nat} {hd : aHd} (hh : h < 8) (hb : HoC σ ow b hd) (hfr : b = ad 5 ∨ ((∀ i, i < 8 → hk i ≠ b) ∧ ∀ d ∈ cs, d.1.1 = 5 → d.2 ≠ some b)) {hf : Nat → Option Nat} (hh4 : σ (ad 4) = some (gAq (.object RX5) 8 hf)) (hs1 : σ1 = su σ (ad 4) (gAq (.object RX5) 8 (va_up hf h (some b)))) {qa : Nat} (hqa : σ1 qa = none) {ca : gC} (hs3 : Sm hx67 (su σ1 qa ca) (va_up ow qa 51) σ3 (va_up ow qa 51)) {old : Nat} (hold : old = hk h) (hi : HiC σ3 (va_up ow qa 51) (ad 6) (noteC cs ((5, h, 0, 0, A.2.2.2.1 h), some old))) : RCx σ3 (va_up ow qa 51) x (aSetHk (aNote A (5, h, 0, 0, A.2.2.2.1 h)) h hd) ad (va_up hk h b) (noteC cs ((5, h, 0, 0, A.2.2.2.1 h), some old)) ff := by
  subst hs1 hold
  obtain ⟨h1, h2, h3, h4, ⟨hf', p1, p2⟩, h6, ⟨h7, h8, h9⟩, ⟨h10, h10b⟩, h11, h12, h13⟩ := q
  have e := p1.1
  rw [hh4] at e
  obtain rfl : hf = hf' := by
    injection e with e
    injection e with e
    injection e with _ e
    injection e with _ e
    injection e with e
    injection e with e
    injection e with e
    injection e with e
  have s1 : Sm (fun m => m = 4) σ ow (su σ (ad 4) (gAq (.object RX5) 8 (va_up hf h (some b)))) ow := Sm.stp p1.2 _
  have s2 : Sm (fun m => m = 4 ∨ m = 6 ∨ m = 7) σ ow σ3 (va_up ow qa 51) := ((s1.wk (fun n z => Or.inl z)).tr (Sm.fre hqa _ ca 51)).tr (hs3.wk (fun n z => Or.inr z))
  have p4 : Pt σ3 (va_up ow qa 51) (ad 4) 4 (gAq (.object RX5) 8 (va_up hf h (some b))) := ((p1.up (gAq (.object RX5) 8 (va_up hf h (some b)))).mono (Sm.fre hqa (fun _ => False) ca 51) (fun z => z)).mono hs3 (by decide)
  have key : ∀ t : List cA, List.Sublist t cs → ckL hk t.reverse → (ALs (ad 5) (va_up hk h b) (t ++ [((5, h, 0, 0, A.2.2.2.1 h), some (hk h))]) ∧ ckL (va_up hk h b) (t ++ [((5, h, 0, 0, A.2.2.2.1 h), some (hk h))]).reverse) := by
    intro t ht hct
    have ha := h10.sub ht
    refine ⟨⟨fun i i' a1 a2 he => ?_, fun i hi8 d hd h5 he => ?_, ?_⟩, ?_⟩
    · by_cases e1 : i = h
      · by_cases e2 : i' = h
        · exact Or.inl (by rw [e1, e2])
        · rw [e1, va_up_self, va_up_ne _ _ e2] at he
          right
          rw [e1, va_up_self]
          rcases hfr with z | z
          · exact z
          · exact absurd he.symm (z.1 i' a2)
      · by_cases e2 : i' = h
        · rw [e2, va_up_self, va_up_ne _ _ e1] at he
          right
          rw [va_up_ne _ _ e1, he]
          rcases hfr with z | z
          · exact z
          · exact absurd he (z.1 i a1)
        · rw [va_up_ne _ _ e1, va_up_ne _ _ e2] at he
          rw [va_up_ne _ _ e1]
          exact ha.1 i i' a1 a2 he
    · rcases List.mem_append.mp hd with z | z
      · by_cases e1 : i = h
        · rw [e1, va_up_self] at he ⊢
          rcases hfr with y | y
          · exact y
          · exact absurd he (y.2 d (ht.subset z) h5)
        · rw [va_up_ne _ _ e1] at he ⊢
          exact ha.2.1 i hi8 d z h5 he
      · rw [List.mem_singleton] at z
        subst z
        have he' := Option.some.inj he
        by_cases e1 : i = h
        · rw [e1, va_up_self] at he' ⊢
          rcases hfr with y | y
          · exact y
          · exact absurd he' (y.1 h hh)
        · rw [va_up_ne _ _ e1] at he' ⊢
          rcases ha.1 h i hh hi8 he' with y | y
          · exact absurd y.symm e1
          · rw [← he']; exact y
    · refine List.pairwise_append.mpr ⟨ha.2.2, List.pairwise_singleton _ _, fun d hd d' hd' h5 _ he => ?_⟩
      rw [List.mem_singleton] at hd'
      subst hd'
      rw [he]
      exact congrArg some (ha.2.1 h hh d hd h5 he)
    · rw [List.reverse_append]
      refine ⟨fun _ => ⟨hk h, rfl, ?_⟩, fun z => absurd rfl z⟩
      show ckL (va_up (va_up hk h b) h (hk h)) _
      rw [va_back]
      exact hct
  refine ⟨h1.mono s2 (by decide), h2.mono s2 (by decide) (fun m _ _ => by omega), h3.mono s2 (by decide), h4.mono s2 (by decide), ⟨_, p4, fun i hi8 => ?_⟩, h6.mono s2 (by decide) (by omega), ⟨hi, ?_, noteC_acH (h9.mono s2 (by decide) (fun m _ => by omega)) (fun _ => ⟨hk h, rfl, (p2 h hh).2.mono s2 (by decide) (by omega)⟩)⟩, ?_, h11.mono s2 (fun m _ _ _ => by omega), h12.mono s2 (by decide), h13⟩
  · show va_up hf h (some b) i = some (va_up hk h b i) ∧ HoC _ _ (va_up hk h b i) (va_up A.2.2.2.1 h hd i)
    by_cases e : i = h
    · rw [e, va_up_self, va_up_self, va_up_self]
      exact ⟨rfl, hb.mono s2 (by decide) (by omega)⟩
    · rw [va_up_ne _ _ e, va_up_ne _ _ e, va_up_ne _ _ e]
      exact ⟨(p2 i hi8).1, (p2 i hi8).2.mono s2 (by decide) (by omega)⟩
  · have := noteC_map cs ((5, h, 0, 0, A.2.2.2.1 h), some (hk h)) A h8
    exact (congrArg (fun B : aA => B.2.2.2.2.1) this).symm
  · unfold noteC
    split
    · exact key _ (List.drop_sublist _ _) (ckL_drop h10b)
    · exact key _ (List.Sublist.refl _) h10b
theorem HoC.some {σ : gH} {ow : Nat → Nat} {b q : Nat} {h : aHd} (p : HoC σ ow b h) (hq : σ q = none) : b ≠ q := by
  obtain ⟨sk, sy, c, n, f, p1, -⟩ := p
  exact p1.nq hq
theorem RCx.fresh {σ : gH} {ow : Nat → Nat} {x : Nat} {A : aA} {ad hk : Nat → Nat} {cs : List cA} {ff : Nat → Option Nat} (q : RCx σ ow x A ad hk cs ff) {b : Nat} (hb : σ b = none) : (∀ i, i < 8 → hk i ≠ b) ∧ ∀ d ∈ cs, d.1.1 = 5 → d.2 ≠ some b := by
  obtain ⟨hf, p1, p2⟩ := q.2.2.2.2.1
  refine ⟨fun i hi => (p2 i hi).2.some hb, fun d hd h5 he => ?_⟩
  obtain ⟨b', b1, b2⟩ := q.2.2.2.2.2.2.1.2.2 d hd h5
  have := b2.some hb
  rw [he] at b1
  exact this (Option.some.inj b1).symm
/-- cells of a row that is no hook's and no act's yet -/
theorem RCx.cellN {σ σ' τ : gH} {ow ow0 : Nat → Nat} {x : Nat} {A : aA} {ad hk : Nat → Nat} {cs : List cA} {ff : Nat → Option Nat} (q : RCx σ ow x A ad hk cs ff) {z : Nat} (hs : Sm (fun i => i = 1000 + z) σ ow σ' ow) (hz : τ z = none) (q0 : RCx τ ow0 x A ad hk cs ff) : RCx σ' ow x A ad hk cs ff := by
  have hfr := q0.fresh hz
  have hna : ad 5 ≠ z := q0.2.2.2.2.2.1.some hz
  obtain ⟨h1, h2, h3, h4, ⟨hf, p1, p2⟩, h6, ⟨h7, h8, h9⟩, h10, h11, h12, h13⟩ := q
  refine ⟨h1.mono hs (by omega), h2.mono hs (by omega) (fun m _ _ => by omega), h3.mono hs (by omega), h4.mono hs (by omega), ⟨hf, p1.mono hs (by omega), fun i hi => ⟨(p2 i hi).1, (p2 i hi).2.mono hs (by omega) (fun e => hfr.1 i hi (by omega))⟩⟩, h6.mono hs (by omega) (fun e => hna (by omega)), ⟨h7.mono hs (by omega) (by omega) (by omega), h8, fun d hd h5 => ?_⟩, h10, h11.mono hs (fun m _ _ _ => by omega), h12.mono hs (by omega), h13⟩
  obtain ⟨b, b1, b2⟩ := h9 d hd h5
  exact ⟨b, b1, b2.mono hs (by omega) (fun e => hfr.2 d hd h5 (by rw [b1]; congr 1; omega))⟩
section CHook
variable {l : Launch} {x : Nat} {A : aA} {ow : Nat → Nat} {ad hk : Nat → Nat} {cs : List cA} {ff : Nat → Option Nat}
theorem t120_X10_hook {τ : gH} (hR : RCx τ ow x A ad hk cs ff) {h b : Nat} {hd : aHd} (hh : h < 8) (hb : HoC τ ow b hd) (hfr : b = ad 5 ∨ ((∀ i, i < 8 → hk i ≠ b) ∧ ∀ d ∈ cs, d.1.1 = 5 → d.2 ≠ some b)) (kind f k : Int32) (x6 : Option Value) : G l mX10_hook 6 1 5 (pI (cP x ((A.2.2.2.1 h).1, aSetHk (aNote A (5, h, 0, 0, A.2.2.2.1 h)) h hd))) τ 120 [some (.ref x), some (.int (nI h)), some (.int kind), some (.int f), some (.int k), some (.ref b), x6] [] := by
  obtain ⟨hf, p1, p2⟩ := hR.2.2.2.2.1
  obtain ⟨e1, sk, sy, c, n, fn, r1, r2, r3⟩ := p2 h hh
  have hbb := hb
  obtain ⟨bk, by', bc, bn, bf, b1, -⟩ := hbb
  have hch : (nI h).toNatClampNeg = h := nI_clamp (by omega)
  have hI : vp_in (nI h) 8 := vp_in_nI hh (by decide)
  have nx : x ≠ ad 4 := hR.1.ne p1 (by decide)
  have nr : hk h ≠ ad 4 := r1.ne p1 (by decide)
  refine g_aload_n (i := 0) dX10_hook_120 rfl rfl ?_
  refine g_getf dX10_hook_121 flX10_25 (by first | exact hR.1.1 | exact p1.1 | (rw [su_ne _ _ nx]; exact hR.1.1)) rfl ?_
  refine g_iload_n (i := 1) dX10_hook_124 rfl rfl ?_
  refine g_aald dX10_hook_125 (by first | exact hR.1.1 | exact p1.1 | (rw [su_ne _ _ nx]; exact hR.1.1)) (by decide) (hI) ?_
  refine g_tor (hk h) (by rw [hch]; exact e1) ?_
  refine g_astore (ls' := [_, _, _, _, _, _, _]) dX10_hook_126 (by decide) rfl rfl ?_
  refine g_aload_n (i := 0) dX10_hook_128 rfl rfl ?_
  refine g_getf dX10_hook_129 flX10_25 (by first | exact hR.1.1 | exact p1.1 | (rw [su_ne _ _ nx]; exact hR.1.1)) rfl ?_
  refine g_iload_n (i := 1) dX10_hook_132 rfl rfl ?_
  refine g_aload dX10_hook_133 rfl ?_
  refine g_aast dX10_hook_135 (by first | exact hR.1.1 | exact p1.1 | (rw [su_ne _ _ nx]; exact hR.1.1)) (by decide) (b1.1) rfl (hI) ?_
  refine g_aload_n (i := 0) dX10_hook_136 rfl rfl ?_
  refine g_getf dX10_hook_137 flX10_39 (by first | exact hR.1.1 | exact p1.1 | (rw [su_ne _ _ nx]; exact hR.1.1)) rfl ?_
  refine g_new dX10_hook_140 nwX10_100 (by decide) (by decide) (fun zq140 zhq140 => ?_)
  refine g_dup dX10_hook_143 rfl ?_
  refine g_iconst (v := 4) dX10_hook_144 (by decide) ?_
  refine g_iload_n (i := 1) dX10_hook_145 rfl rfl ?_
  refine g_iconst (v := 0) dX10_hook_146 (by decide) ?_
  refine g_lconst (v := 0) dX10_hook_147 (by decide) ?_
  refine g_aload dX10_hook_148 rfl ?_
  refine g_callIv (My := mX0_init) [_, _, _, _, _] dX10_hook_150 lkX10_102 mvX0_init rfl (c_X0_init (su_self _ _ _) _ _ _ _) (by decide) (by decide) (by decide) rfl (Nat.le_of_ble_eq_true rfl) (fun σ zh150 => ?_)
  rw [zh150, su_su, hch]
  rw [hch] at zhq140
  have hs4 : Sm (fun m => m = 4) τ ow (su τ (ad 4) (gAq (.object RX5) 8 (va_up hf h (some b)))) ow := Sm.stp p1.2 _
  have hi4 := hR.2.2.2.2.2.2.1.1.mono hs4 (by decide) (by decide) (by decide)
  have hs5 := Sm.none (ow := ow) zhq140 (gO 0 [.int 4, .int (nI h), .int 0, .long 0, .ref (hk h)]) 51
  have hi5 := hi4.mono hs5 (fun z => z) (fun z => z) (fun z => z)
  have hq := AcC.mk (σ := su τ (ad 4) (gAq (.object RX5) 8 (va_up hf h (some b)))) (ow := ow) (q := zq140) ((5, h, 0, 0, A.2.2.2.1 h), some (hk h))
  refine g_callVv (My := mX4_add) [_] dX10_hook_153 lkX10_105 mvX4_add rfl (hi5.choose_spec.choose_spec.1.1) rfl (c_X4_add hi5 hq) (by decide) (by decide) (by decide) rfl (Nat.le_of_ble_eq_true rfl) (fun σ zh153 => ?_)
  obtain ⟨hs6, hi6⟩ := zh153
  have hR6 := hR.hook hh hb hfr p1.1 rfl zhq140 hs6 rfl hi6
  have r6 := ((r1.mono hs4 (by decide)).mono hs5 (fun z => z)).mono hs6 (by decide)
  refine g_aload dX10_hook_156 rfl ?_
  refine g_getf dX10_hook_158 flX10_225 (r6.1) rfl ?_
  refine g_iret dX10_hook_161 rfl ?_
  exact ⟨_, rfl, rfl, hR6.rc⟩
theorem c_X10_narrowed {τ : gH} {kind : Int32} (hk' : kind = 2 ∨ kind = 3 ∨ kind = 4 ∨ kind = 5) (v : Int64) : Ct l mX10_narrowed 1 0 0 [.int kind, .long v] τ (pL fun r σ' => r = aNar kind v ∧ σ' = τ) := by
  refine Ct_of moX10_narrowed [some (.int kind), some (.long v), none] rfl (Nat.le_of_ble_eq_true rfl) ?_
  refine g_iload_n (i := 0) dX10_narrowed_0 rfl rfl ?_
  by_cases e1_2 : kind = 2
  · refine g_tbIn (c := 2) (tgt := 32) e1_2 dX10_narrowed_1 (by decide) (by decide) rfl (by decide) ?_
    refine g_lload_n (i := 1) dX10_narrowed_32 rfl rfl ?_
    refine g_l2i dX10_narrowed_33 ?_
    refine g_i2l dX10_narrowed_34 ?_
    refine g_lret dX10_narrowed_35 rfl ?_
    refine ⟨_, rfl, ?_, rfl⟩
    first
    | (subst e1_2; rfl)
    | (subst e1_3; rfl)
    | (subst e1_4; rfl)
    | (subst e1_5; rfl)
    | (exfalso; rcases hk' with q | q | q | q <;> first | exact e1_2 q | exact e1_3 q | exact e1_4 q | exact e1_5 q)
  by_cases e1_3 : kind = 3
  · refine g_tbIn (c := 3) (tgt := 46) e1_3 dX10_narrowed_1 (by decide) (by decide) rfl (by decide) ?_
    refine g_lload_n (i := 1) dX10_narrowed_46 rfl rfl ?_
    refine g_lret dX10_narrowed_47 rfl ?_
    refine ⟨_, rfl, ?_, rfl⟩
    first
    | (subst e1_2; rfl)
    | (subst e1_3; rfl)
    | (subst e1_4; rfl)
    | (subst e1_5; rfl)
    | (exfalso; rcases hk' with q | q | q | q <;> first | exact e1_2 q | exact e1_3 q | exact e1_4 q | exact e1_5 q)
  by_cases e1_4 : kind = 4
  · refine g_tbIn (c := 4) (tgt := 36) e1_4 dX10_narrowed_1 (by decide) (by decide) rfl (by decide) ?_
    refine g_lload_n (i := 1) dX10_narrowed_36 rfl rfl ?_
    refine g_l2i dX10_narrowed_37 ?_
    refine g_i2b dX10_narrowed_38 ?_
    refine g_i2l dX10_narrowed_39 ?_
    refine g_lret dX10_narrowed_40 rfl ?_
    refine ⟨_, rfl, ?_, rfl⟩
    first
    | (subst e1_2; rfl)
    | (subst e1_3; rfl)
    | (subst e1_4; rfl)
    | (subst e1_5; rfl)
    | (exfalso; rcases hk' with q | q | q | q <;> first | exact e1_2 q | exact e1_3 q | exact e1_4 q | exact e1_5 q)
  by_cases e1_5 : kind = 5
  · refine g_tbIn (c := 5) (tgt := 41) e1_5 dX10_narrowed_1 (by decide) (by decide) rfl (by decide) ?_
    refine g_lload_n (i := 1) dX10_narrowed_41 rfl rfl ?_
    refine g_l2i dX10_narrowed_42 ?_
    refine g_i2s dX10_narrowed_43 ?_
    refine g_i2l dX10_narrowed_44 ?_
    refine g_lret dX10_narrowed_45 rfl ?_
    refine ⟨_, rfl, ?_, rfl⟩
    first
    | (subst e1_2; rfl)
    | (subst e1_3; rfl)
    | (subst e1_4; rfl)
    | (subst e1_5; rfl)
    | (exfalso; rcases hk' with q | q | q | q <;> first | exact e1_2 q | exact e1_3 q | exact e1_4 q | exact e1_5 q)
  refine g_tbOut (tgt := 46) dX10_narrowed_1 (g_out 2 5 (by intro i h1 h2; (rcases (show i = 2 ∨ i = 3 ∨ i = 4 ∨ i = 5 by omega) with rfl | rfl | rfl | rfl) <;> simp_all)) (by decide) ?_
  refine g_lload_n (i := 1) dX10_narrowed_46 rfl rfl ?_
  refine g_lret dX10_narrowed_47 rfl ?_
  refine ⟨_, rfl, ?_, rfl⟩
  first
  | (subst e1_2; rfl)
  | (subst e1_3; rfl)
  | (subst e1_4; rfl)
  | (subst e1_5; rfl)
  | (exfalso; rcases hk' with q | q | q | q <;> first | exact e1_2 q | exact e1_3 q | exact e1_4 q | exact e1_5 q)
theorem lp_X10_rowOf {σ0 : gH} (hR : RCx σ0 ow x A ad hk cs ff) {q c : Nat} {kind : Int32} (hk' : kind = 2 ∨ kind = 3 ∨ kind = 4 ∨ kind = 5) (hq : σ0 q = some (gO 4 [.int kind, .int 0, .long 0, .ref c])) {m : Nat} (hm : m ≤ 12) {f0 : Nat → Int64} (hc : σ0 c = some (gAl m f0)) {mk : Nat → Int64} (hma : σ0 (ad 9) = some (gAl 13 mk)) (hcm : c ≠ ad 9) (b f : Option Value) {post : Option Value → gH → Prop} (hp : ∀ g, (∀ i, i < m → g i = aNar kind (mk (i + 1))) → post (some (.ref q)) (su σ0 c (gAl m g))) :
    ∀ (n k : Nat) (g : Nat → Int64), k + n = m → (∀ i, i < k → g i = aNar kind (mk (i + 1))) → G l mX10_rowOf 5 0 0 post (su σ0 c (gAl m g)) 29 [some (.ref x), some (.int kind), b, f, some (.int (nI m)), some (.ref q), some (.int (nI k))] [] := by
  have nx : x ≠ c := fun e => by rw [← e, hR.1.1] at hc; cases hc
  have nq : q ≠ c := fun e => by rw [← e, hq] at hc; cases hc
  intro n
  induction n with
  | zero =>
    intro k g hk'' hg
    obtain rfl : k = m := by omega
    refine g_iload dX10_rowOf_29 rfl ?_
    refine g_iload dX10_rowOf_31 rfl ?_
    refine g_icmp_ge (tgt := 63) dX10_rowOf_33 (by decide) (fun zc33 => ?_) (fun zc33 => ?_)
    · refine g_aload dX10_rowOf_63 rfl ?_
      refine g_aret (r := some q) dX10_rowOf_65 rfl ?_
      exact hp g hg
    · exact absurd (nI_le (Nat.le_refl _) (by omega)) zc33
  | succ n ih =>
    intro k g hk'' hg
    have hck : (nI k).toNatClampNeg = k := nI_clamp (by omega)
    have hck1 : (nI (k + 1)).toNatClampNeg = k + 1 := nI_clamp (by omega)
    refine g_iload dX10_rowOf_29 rfl ?_
    refine g_iload dX10_rowOf_31 rfl ?_
    refine g_icmp_ge (tgt := 63) dX10_rowOf_33 (by decide) (fun zc33 => ?_) (fun zc33 => ?_)
    · exact absurd zc33 (nI_ge (by omega) (by omega))
    · refine g_aload dX10_rowOf_36 rfl ?_
      refine g_getf dX10_rowOf_38 flX10_287 (by first | (rw [su_ne _ _ nx]; exact hR.1.1) | (rw [su_ne _ _ nq]; exact hq) | exact su_self _ _ _ | (rw [su_ne _ _ (Ne.symm hcm)]; exact hma)) rfl ?_
      refine g_iload dX10_rowOf_41 rfl ?_
      refine g_iload_n (i := 1) dX10_rowOf_43 rfl rfl ?_
      refine g_aload_n (i := 0) dX10_rowOf_44 rfl rfl ?_
      refine g_getf dX10_rowOf_45 flX10_50 (by first | (rw [su_ne _ _ nx]; exact hR.1.1) | (rw [su_ne _ _ nq]; exact hq) | exact su_self _ _ _ | (rw [su_ne _ _ (Ne.symm hcm)]; exact hma)) rfl ?_
      refine g_iload dX10_rowOf_48 rfl ?_
      refine g_iconst (v := 1) dX10_rowOf_50 (by decide) ?_
      refine g_iadd dX10_rowOf_51 ?_
      rw [nI_1]
      refine g_lald dX10_rowOf_52 (by first | (rw [su_ne _ _ nx]; exact hR.1.1) | (rw [su_ne _ _ nq]; exact hq) | exact su_self _ _ _ | (rw [su_ne _ _ (Ne.symm hcm)]; exact hma)) ((vp_in_nI (show k + 1 < 13 by omega) (by decide) : vp_in (nI (k + 1)) 13)) ?_
      refine g_callSl (My := mX10_narrowed) [_, _] dX10_rowOf_53 lkX10_290 mvX10_narrowed rfl (c_X10_narrowed hk' _) (by decide) (by decide) (by decide) rfl (Nat.le_of_ble_eq_true rfl) (fun zr53 σ zh53 => ?_)
      obtain ⟨ze53, zf53⟩ := zh53
      rw [ze53, zf53]
      refine g_last dX10_rowOf_56 (by first | (rw [su_ne _ _ nx]; exact hR.1.1) | (rw [su_ne _ _ nq]; exact hq) | exact su_self _ _ _ | (rw [su_ne _ _ (Ne.symm hcm)]; exact hma)) ((vp_in_nI (show k < m by omega) (by omega) : vp_in (nI k) m)) ?_
      refine g_iinc (v := _ + 1) (ls' := [_, _, _, _, _, _, _]) dX10_rowOf_57 rfl rfl (by decide) rfl rfl ?_
      refine g_goto (tgt := 29) dX10_rowOf_60 (by decide) ?_
      rw [su_su, hck]
      refine g_cl (by rw [nI_1]) (ih (k + 1) _ (by omega) (fun i hi => ?_))
      by_cases e : i = k
      · subst e; rw [pk_uLs, hck1]
      · rw [pk_uLn e]; exact hg i (by omega)
theorem c_X10_rowOf {τ : gH} (hR : RCx τ ow x A ad hk cs ff) {j : Nat} {g : aF} (hg : A.1[j]? = some g) (hw : wfF g) {b : Nat} (hb : ff j = some b) {kind : Int32} (hk' : kind = 2 ∨ kind = 3 ∨ kind = 4 ∨ kind = 5) {m : Nat} (hm : m ≤ g.2.length) (f : Int32) : Ct l mX10_rowOf 5 2 16 [.ref x, .int kind, .ref b, .int f, .int (nI m)] τ (pQ fun r σ' => ∃ q ow', r = some q ∧ τ q = none ∧ RCx σ' ow' x A ad hk cs ff ∧ HoC σ' ow' q (kind, aRow g kind f m)) := by
  obtain ⟨b', ka, xa, ya, kf, xf, yf, hb', p1, p2, p3, p4, hst, h12⟩ := hR.form hg
  obtain rfl : b = b' := Option.some.inj (hb.symm.trans hb')
  have k1 : ¬ kind = 1 := by rcases hk' with rfl | rfl | rfl | rfl <;> decide
  refine Ct_of moX10_rowOf [some (.ref x), some (.int kind), some (.ref b), some (.int f), some (.int (nI m)), none, none] rfl (Nat.le_of_ble_eq_true rfl) ?_
  refine g_new dX10_rowOf_0 nwX10_23 (by decide) (by decide) (fun zq0 zhq0 => ?_)
  refine g_dup dX10_rowOf_3 rfl ?_
  refine g_iload_n (i := 1) dX10_rowOf_4 rfl rfl ?_
  refine g_iconst (v := 0) dX10_rowOf_5 (by decide) ?_
  refine g_lconst (v := 0) dX10_rowOf_6 (by decide) ?_
  refine g_iload dX10_rowOf_7 rfl ?_
  refine g_callIv (My := mX5_init) [_, _, _, _] dX10_rowOf_9 lkX10_29 mvX5_init rfl (c_X5_init (su_self _ _ _) kind 0 0 (show m ≤ 12 by omega)) (by decide) (by decide) (by decide) rfl (Nat.le_of_ble_eq_true rfl) (fun σ zh9 => ?_)
  obtain ⟨c, hc, ze9⟩ := zh9
  have nqc : c ≠ zq0 := fun e => by
    rw [e, su_self] at hc
    cases hc
  rw [su_ne _ _ nqc] at hc
  have eσ : su (su (su τ zq0 (gO 4 [.int 0, .int 0, .long 0, .null])) c (gAl m (fun _ => 0))) zq0 (gO 4 [.int kind, .int 0, .long 0, .ref c]) = su (su τ c (gAl m (fun _ => 0))) zq0 (gO 4 [.int kind, .int 0, .long 0, .ref c]) := by
    rw [su_comm τ _ _ (Ne.symm nqc), su_su]
  rw [ze9, eσ]
  have a1 := Sm.none (ow := ow) hc (gAl m (fun _ => 0)) (1000 + zq0)
  have a2 := Sm.none (ow := va_up ow c (1000 + zq0)) (q := zq0) (show su τ c (gAl m (fun _ => 0)) zq0 = none by rw [su_ne _ _ (Ne.symm nqc)]; exact zhq0) (gO 4 [.int kind, .int 0, .long 0, .ref c]) 50
  have hS := a1.tr a2
  have hR1 := hR.new hS
  have q1 : Pt (su (su τ c (gAl m (fun _ => 0))) zq0 (gO 4 [.int kind, .int 0, .long 0, .ref c])) (va_up (va_up ow c (1000 + zq0)) zq0 50) zq0 50 (gO 4 [.int kind, .int 0, .long 0, .ref c]) := ⟨su_self _ _ _, va_up_self _ _ _⟩
  have q2 : Pt (su (su τ c (gAl m (fun _ => 0))) zq0 (gO 4 [.int kind, .int 0, .long 0, .ref c])) (va_up (va_up ow c (1000 + zq0)) zq0 50) c (1000 + zq0) (gAl m (fun _ => 0)) := ⟨by rw [su_ne _ _ nqc]; exact su_self _ _ _, by rw [va_up_ne _ _ nqc]; exact va_up_self _ _ _⟩
  obtain ⟨ow1, how1⟩ : ∃ o, o = va_up (va_up ow c (1000 + zq0)) zq0 50 := ⟨_, rfl⟩
  obtain ⟨σ1, hσ1⟩ : ∃ s, s = su (su τ c (gAl m (fun _ => 0))) zq0 (gO 4 [.int kind, .int 0, .long 0, .ref c]) := ⟨_, rfl⟩
  have r1 := p1.mono hS (fun z => z)
  have r2 := p2.mono hS (fun z => z)
  have r3 := p3.mono hS (fun z => z)
  have r4 := p4.mono hS (fun z => z)
  rw [← how1, ← hσ1] at hR1 q1 q2 r1 r2 r3 r4
  rw [← hσ1]
  clear eσ hS a1 a2
  obtain ⟨mk0, hma⟩ := hR1.2.2.2.2.2.2.2.2.2.1
  refine g_astore (ls' := [_, _, _, _, _, _, _]) dX10_rowOf_12 (by decide) rfl rfl ?_
  refine g_aload_n (i := 2) dX10_rowOf_14 rfl rfl ?_
  refine g_iload_n (i := 3) dX10_rowOf_15 rfl rfl ?_
  refine g_i2l dX10_rowOf_16 ?_
  refine g_iload dX10_rowOf_17 rfl ?_
  refine g_aload_n (i := 0) dX10_rowOf_19 rfl rfl ?_
  refine g_getf dX10_rowOf_20 flX10_50 (by first | exact hR1.1.1 | exact r1.1) rfl ?_
  refine g_callVv (My := mX3_work) [_, _, _] dX10_rowOf_23 lkX10_146 mvX3_work rfl (by first | exact hR1.1.1 | exact r1.1) rfl (c_X3_work hw r1.1 r2.1 r3.1 r4.1 hma.1 hm hst _) (by decide) (by decide) (by decide) rfl (Nat.le_of_ble_eq_true rfl) (fun σ zh23 => ?_)
  obtain ⟨mk, ze23, hmk⟩ := zh23
  rw [ze23]
  have hs3 : Sm (fun i => i = 9) σ1 ow1 (su σ1 (ad 9) (gAl 13 mk)) ow1 := Sm.stp hma.2 _
  have hR3 := hR1.oth hs3 ⟨mk, hma.up _⟩
  have s1 := q1.mono hs3 (by decide)
  have s2 := q2.mono hs3 (by omega)
  refine g_iconst (v := 0) dX10_rowOf_26 (by decide) ?_
  refine g_istore (ls' := [_, _, _, _, _, _, _]) dX10_rowOf_27 (by decide) rfl rfl ?_
  have hpost : ∀ gg : Nat → Int64, (∀ i, i < m → gg i = aNar kind (mk (i + 1))) → (pQ fun r σ' => ∃ q ow', r = some q ∧ τ q = none ∧ RCx σ' ow' x A ad hk cs ff ∧ HoC σ' ow' q (kind, aRow g kind f m)) (some (.ref zq0)) (su (su σ1 (ad 9) (gAl 13 mk)) c (gAl m gg)) := by
    intro gg hgg
    have hs4 : Sm (fun i => i = 1000 + zq0) (su σ1 (ad 9) (gAl 13 mk)) ow1 (su (su σ1 (ad 9) (gAl 13 mk)) c (gAl m gg)) ow1 := Sm.stp (b := c) (ex := fun i => i = 1000 + zq0) s2.2 _
    refine ⟨some zq0, rfl, zq0, ow1, rfl, zhq0, hR3.cellN hs4 zhq0 hR, ⟨0, 0, c, m, gg, s1.mono hs4 (by omega), s2.up _, by omega, Or.inr ⟨k1, by unfold aRow; rw [List.length_map, List.length_range], fun i v hv => ?_⟩⟩⟩
    unfold aRow at hv
    rw [List.getElem?_map] at hv
    have hi : i < m := by
      rcases Nat.lt_or_ge i m with z | z
      · exact z
      · rw [List.getElem?_eq_none (by rw [List.length_range]; exact z)] at hv
        cases hv
    rw [List.getElem?_range hi] at hv
    cases hv
    rw [hgg i hi, hmk (i + 1) (by omega)]
  have hfin := lp_X10_rowOf (l := l) hR3 hk' s1.1 (show m ≤ 12 by omega) s2.1 (su_self _ _ _) (q2.ne hma (by omega)) (some (.ref b)) (some (.int f)) hpost m 0 (fun _ => 0) (by omega) (fun i hi => absurd hi (Nat.not_lt_zero _))
  rw [su_id s2.1] at hfin
  exact g_bud (Nat.zero_le _) (Nat.zero_le _) hfin
end CHook
