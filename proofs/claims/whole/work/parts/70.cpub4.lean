/-! the class: inverse, fails, new forms, steps, drop -/
def dvN (m : Nat) (y : Int64) : Prop := 2 ^ m ∣ uN y
def nstp (od g : Int64) : Int64 := g * (2 - od * g)
theorem nst_d (od g : Int64) : 1 - od * nstp od g = (1 - od * g) * (1 - od * g) := by
  unfold nstp
  grind
theorem nst_x (od g : Int64) : nstp od g = g + g * (1 - od * g) := by
  unfold nstp
  grind
theorem dv_sq {m k : Nat} {y : Int64} (h : dvN m y) (hk : k ≤ 2 * m) (hk64 : k ≤ 64) : dvN k (y * y) := by
  unfold dvN at *
  rw [uN_mul]
  have h1 : 2 ^ k ∣ uN y * uN y := by
    refine Nat.dvd_trans (Nat.pow_dvd_pow 2 hk) ?_
    rw [Nat.two_mul, Nat.pow_add]
    exact Nat.mul_dvd_mul h h
  have h2 : 2 ^ k ∣ 18446744073709551616 := by
    rw [← pw64]
    exact Nat.pow_dvd_pow 2 hk64
  exact (Nat.dvd_mod_iff h2).mpr h1
theorem dv_low {N : Nat} (hN : N = 8 ∨ N = 16 ∨ N = 32 ∨ N = 64) {od g : Int64} (h : dvN N (1 - od * g)) : mLow (nstp od g) (nI N) = mLow g (nI N) := by
  unfold dvN at h
  apply uN_inj
  rw [uN_mLow _ hN, uN_mLow _ hN, nst_x, uN_add, uN_mul]
  have h2 : 2 ^ N ∣ 18446744073709551616 := by
    rw [← pw64]
    exact Nat.pow_dvd_pow 2 (by omega)
  rw [Nat.mod_mod_of_dvd _ h2, Nat.add_mod, Nat.mod_mod_of_dvd _ h2, Nat.mod_eq_zero_of_dvd (Nat.dvd_trans h (Nat.dvd_mul_left _ _)), Nat.add_zero, Nat.mod_mod]
theorem mInvL_low {N : Nat} (hN : N = 8 ∨ N = 16 ∨ N = 32 ∨ N = 64) {od : Int64} : ∀ (n : Nat) (g : Int64), dvN N (1 - od * g) → mLow (mInvL od n g) (nI N) = mLow g (nI N) := by
  intro n
  induction n with
  | zero => intro g _; rfl
  | succ n ih =>
    intro g h
    show mLow (mInvL od n (nstp od g)) (nI N) = _
    rw [ih (nstp od g) (by rw [nst_d]; exact dv_sq h (by omega) (by omega)), dv_low hN h]
theorem dv_0 {od : Int64} (h : uN od % 2 = 1) : dvN 3 (1 - od * od) := by
  unfold dvN
  have hl := uN_lt (od * od)
  have e : uN (od * od) % 8 = 1 := by
    rw [uN_mul, Nat.mod_mod_of_dvd _ (by decide : (8 : Nat) ∣ 18446744073709551616), Nat.mul_mod]
    rcases (show uN od % 8 = 1 ∨ uN od % 8 = 3 ∨ uN od % 8 = 5 ∨ uN od % 8 = 7 by omega) with q | q | q | q <;> rw [q]
  rw [uN_sub, show uN 1 = 1 from by decide]
  show 8 ∣ _
  omega
theorem bInv_eq {w : Int32} (hw : isW w) {od : Int64} (ho : uN od % 2 = 1) : bInv w od = mLow (mInv od) w := by
  unfold bInv
  rw [low_eq _ hw]
  have d0 := dv_0 ho
  have d1 : dvN 6 (1 - od * nstp od od) := by rw [nst_d]; exact dv_sq d0 (by decide) (by decide)
  have d2 : dvN 12 (1 - od * nstp od (nstp od od)) := by rw [nst_d]; exact dv_sq d1 (by decide) (by decide)
  have d3 : dvN 24 (1 - od * nstp od (nstp od (nstp od od))) := by rw [nst_d]; exact dv_sq d2 (by decide) (by decide)
  have d4 : dvN 48 (1 - od * nstp od (nstp od (nstp od (nstp od od)))) := by rw [nst_d]; exact dv_sq d3 (by decide) (by decide)
  have d5 : dvN 64 (1 - od * nstp od (nstp od (nstp od (nstp od (nstp od od))))) := by rw [nst_d]; exact dv_sq d4 (by decide) (by decide)
  have wk : ∀ {a b : Nat} {y : Int64}, dvN a y → b ≤ a → dvN b y := fun h hb => Nat.dvd_trans (Nat.pow_dvd_pow 2 hb) h
  rcases hw with rfl | rfl | rfl | rfl
  · have e : bInvL 8 od 5 3 od = nstp od (nstp od od) := by
      rw [bInvL, if_neg (by decide), bInvL, if_neg (by decide), bInvL, if_pos (by decide)]
      rfl
    rw [e]
    exact (mInvL_low (N := 8) (Or.inl rfl) 4 _ (wk d2 (by decide))).symm
  · have e : bInvL 16 od 5 3 od = nstp od (nstp od (nstp od od)) := by
      rw [bInvL, if_neg (by decide), bInvL, if_neg (by decide), bInvL, if_neg (by decide), bInvL, if_pos (by decide)]
      rfl
    rw [e]
    exact (mInvL_low (N := 16) (Or.inr (Or.inl rfl)) 3 _ (wk d3 (by decide))).symm
  · have e : bInvL 32 od 5 3 od = nstp od (nstp od (nstp od (nstp od od))) := by
      rw [bInvL, if_neg (by decide), bInvL, if_neg (by decide), bInvL, if_neg (by decide), bInvL, if_neg (by decide), bInvL, if_pos (by decide)]
      rfl
    rw [e]
    exact (mInvL_low (N := 32) (Or.inr (Or.inr (Or.inl rfl))) 2 _ (wk d4 (by decide))).symm
  · have e : bInvL 64 od 5 3 od = nstp od (nstp od (nstp od (nstp od (nstp od od)))) := by
      rw [bInvL, if_neg (by decide), bInvL, if_neg (by decide), bInvL, if_neg (by decide), bInvL, if_neg (by decide), bInvL, if_neg (by decide), bInvL]
      rfl
    rw [e]
    exact (mInvL_low (N := 64) (Or.inr (Or.inr (Or.inr rfl))) 1 _ d5).symm
theorem g_bud {l : Launch} {M : gM} {d bc bs bc' bs' : Nat} {post : Option Value → gH → Prop} {σ : gH} {pc : Nat} {ls : List (Option Value)} {st : List Value} (hc : bc' ≤ bc) (hs : bs' ≤ bs) (k : G l M d bc' bs' post σ pc ls st) : G l M d bc bs post σ pc ls st := by
  intro p e R s m args below meth c D aC A k0 n0 X H locs cells slots lsA hH hS h1 h2 h3 h4 hl
  exact k p e R s m args below meth c D aC A k0 n0 X H locs cells slots lsA hH hS (by omega) (by omega) h3 h4 hl
section CPub4
variable {l : Launch} {τ : gH} {x : Nat} {A : aA}
theorem c_X10_inverse (hR : RC τ x A) (w : Int32) (d : Int64) : Ct l mX10_inverse 3 0 0 [.ref x, .int w, .long d] τ (pL (cPl x (sInverse w d, A))) := by
  have hb := uN_bit d
  have hd1 : d &&& 1 = 1 ↔ uN d % 2 = 1 := by
    have e : uN (d &&& 1) = uN d % 2 := by rw [uN_and, show uN 1 = 2 ^ 1 - 1 from by decide, Nat.and_two_pow_sub_one_eq_mod]
    constructor
    · intro z
      rw [z] at e
      rw [← e]
      decide
    · intro z
      apply uN_inj
      rw [e, z]
      decide
  refine Ct_of moX10_inverse [some (.ref x), some (.int w), some (.long d), none] rfl (Nat.le_of_ble_eq_true rfl) ?_
  refine g_iload_n (i := 1) dX10_inverse_0 rfl rfl ?_
  refine g_callSi (My := mX2_isWidth) [_] dX10_inverse_1 lkX10_62 mvX2_isWidth rfl (c_X2_isWidth _) (by decide) (by decide) (by decide) rfl (Nat.le_of_ble_eq_true rfl) (fun zr1 σ zh1 => ?_)
  obtain ⟨ze1, zf1⟩ := zh1
  rw [ze1, zf1]
  refine g_if_eq (tgt := 15) dX10_inverse_4 (by decide) (fun zc4 => ?_) (fun zc4 => ?_)
  · refine g_lconst (v := 0) dX10_inverse_15 (by decide) ?_
    refine g_lret dX10_inverse_16 rfl ?_
    refine ⟨_, rfl, ?_, hR⟩
    unfold sInverse
    first
    | (rw [if_neg (fun z => bI_eq0.mp zc4 z.1)]; done)
    | (rw [if_neg (fun z => by have q := hb.mp ((lg_cmp_eq _ _).mp zc12); have := hd1.mp z.2; omega)]; done)
    | (have q : uN d % 2 = 1 := by (rcases Nat.mod_two_eq_zero_or_one (uN d) with z | z; exact absurd ((lg_cmp_eq _ _).mpr (hb.mpr z)) zc12; exact z)
       rw [if_pos ⟨bI_ne0.mp zc4, hd1.mpr q⟩]
       exact bInv_eq (bI_ne0.mp zc4) q)
  · refine g_lload_n (i := 2) dX10_inverse_7 rfl rfl ?_
    refine g_lconst (v := 1) dX10_inverse_8 (by decide) ?_
    refine g_land dX10_inverse_9 ?_
    refine g_lconst (v := 0) dX10_inverse_10 (by decide) ?_
    refine g_lcmp dX10_inverse_11 ?_
    refine g_if_ne (tgt := 17) dX10_inverse_12 (by decide) (fun zc12 => ?_) (fun zc12 => ?_)
    · refine g_iload_n (i := 1) dX10_inverse_17 rfl rfl ?_
      refine g_lload_n (i := 2) dX10_inverse_18 rfl rfl ?_
      refine g_callSl (My := mX2_inverseOf) [_, _] dX10_inverse_19 lkX10_189 mvX2_inverseOf rfl (c_X2_inverseOf _ (bI_ne0.mp zc4) _) (by decide) (by decide) (by decide) rfl (Nat.le_of_ble_eq_true rfl) (fun zr19 σ zh19 => ?_)
      obtain ⟨ze19, zf19⟩ := zh19
      rw [ze19, zf19]
      refine g_lret dX10_inverse_22 rfl ?_
      refine ⟨_, rfl, ?_, hR⟩
      unfold sInverse
      first
      | (rw [if_neg (fun z => bI_eq0.mp zc4 z.1)]; done)
      | (rw [if_neg (fun z => by have q := hb.mp ((lg_cmp_eq _ _).mp zc12); have := hd1.mp z.2; omega)]; done)
      | (have q : uN d % 2 = 1 := by (rcases Nat.mod_two_eq_zero_or_one (uN d) with z | z; exact absurd ((lg_cmp_eq _ _).mpr (hb.mpr z)) zc12; exact z)
         rw [if_pos ⟨bI_ne0.mp zc4, hd1.mpr q⟩]
         exact bInv_eq (bI_ne0.mp zc4) q)
    · refine g_lconst (v := 0) dX10_inverse_15 (by decide) ?_
      refine g_lret dX10_inverse_16 rfl ?_
      refine ⟨_, rfl, ?_, hR⟩
      unfold sInverse
      first
      | (rw [if_neg (fun z => bI_eq0.mp zc4 z.1)]; done)
      | (rw [if_neg (fun z => by have q := hb.mp ((lg_cmp_eq _ _).mp zc12); have := hd1.mp z.2; omega)]; done)
      | (have q : uN d % 2 = 1 := by (rcases Nat.mod_two_eq_zero_or_one (uN d) with z | z; exact absurd ((lg_cmp_eq _ _).mpr (hb.mpr z)) zc12; exact z)
         rw [if_pos ⟨bI_ne0.mp zc4, hd1.mpr q⟩]
         exact bInv_eq (bI_ne0.mp zc4) q)
theorem lp_X10_fails {σ0 : gH} {ow : Nat → Nat} {ad hk : Nat → Nat} {cs : List cA} {ff : Nat → Option Nat} (hR : RCx σ0 ow x A ad hk cs ff) {j : Nat} {g : aF} (hg : A.1[j]? = some g) (hw : wfF g) {b q : Nat} (hb : ff j = some b) (sg ws : Int32) (d : Int64) (ha : mIsA g.1 sg ws d) (hq : Pt σ0 ow q 400 (gO 1 [.int g.1, .int (bI (sg = 1)), .int ws, .long (cDv g.1 sg d)])) (M : Nat) (hM31 : M ≤ 65536) (hMw : ∀ v, v < M → mLow (nI v).toInt64 g.1 = (nI v).toInt64) {post : Option Value → gH → Prop} (f : Option Value) :
    ∀ (n v : Nat) (mk : Nat → Int64), v + n = M → (∀ mk', post (some (.int (flp (fBad g sg ws d) n v))) (su σ0 (ad 9) (gAl 13 mk'))) → G l mX10_fails 5 0 0 post (su σ0 (ad 9) (gAl 13 mk)) 69 [some (.ref x), f, some (.int sg), some (.int ws), some (.long d), none, some (.ref b), some (.ref q), some (.int (nI M)), some (.int (nI v))] [] := by
  obtain ⟨b', ka, xa, ya, kf, xf, yf, hb', p1, p2, p3, p4, hst, h12⟩ := hR.form hg
  obtain rfl : b = b' := Option.some.inj (hb.symm.trans hb')
  obtain ⟨mk0, hma⟩ := hR.2.2.2.2.2.2.2.2.2.1
  have hcl : (nI g.2.length).toNatClampNeg = g.2.length := nI_clamp (by omega)
  have hs : ∀ mk, Sm (fun m => m = 9) σ0 ow (su σ0 (ad 9) (gAl 13 mk)) ow := fun mk => Sm.stp hma.2 _
  have fx : ∀ mk, (su σ0 (ad 9) (gAl 13 mk)) x = some (xO ad A.1.length A.2.2.2.2.2) := fun mk => (hR.1.mono (hs mk) (by decide)).1
  have f1 : ∀ mk, (su σ0 (ad 9) (gAl 13 mk)) b = _ := fun mk => (p1.mono (hs mk) (by omega)).1
  have f2 : ∀ mk, (su σ0 (ad 9) (gAl 13 mk)) ka = _ := fun mk => (p2.mono (hs mk) (by omega)).1
  have f3 : ∀ mk, (su σ0 (ad 9) (gAl 13 mk)) xa = _ := fun mk => (p3.mono (hs mk) (by omega)).1
  have f4 : ∀ mk, (su σ0 (ad 9) (gAl 13 mk)) ya = _ := fun mk => (p4.mono (hs mk) (by omega)).1
  have fq : ∀ mk, (su σ0 (ad 9) (gAl 13 mk)) q = _ := fun mk => (hq.mono (hs mk) (by decide)).1
  intro n
  induction n with
  | zero =>
    intro v mk hv hp
    obtain rfl : v = M := by omega
    refine g_iload dX10_fails_69 rfl ?_
    refine g_iload dX10_fails_71 rfl ?_
    refine g_icmp_ge (tgt := 135) dX10_fails_73 (by decide) (fun zc73 => ?_) (fun zc73 => ?_)
    · refine g_bipush (v := (-3)) dX10_fails_135 (by decide) ?_
      refine g_iret dX10_fails_137 rfl ?_
      rw [flp_0] at hp
      exact hp mk
    · exact absurd (nI_le (Nat.le_refl _) (by omega)) zc73
  | succ n ih =>
    intro v mk hv hp
    have hmv := hMw v (by omega)
    have next : ¬ fBad g sg ws d v → ∀ mk', G l mX10_fails 5 0 0 post (su σ0 (ad 9) (gAl 13 mk')) 129 [some (.ref x), f, some (.int sg), some (.int ws), some (.long d), none, some (.ref b), some (.ref q), some (.int (nI M)), some (.int (nI v))] [] := by
      intro hbd mk'
      rw [flp_f hbd] at hp
      refine g_iinc (v := _ + 1) (ls' := [_, _, _, _, _, _, _, _, _, _]) dX10_fails_129 rfl rfl (by decide) rfl rfl ?_
      refine g_goto (tgt := 69) dX10_fails_132 (by decide) ?_
      rw [nI_1]
      exact ih (v + 1) mk' (by omega) hp
    have hans : cAns g.1 ws (cQR sg ws (cDv g.1 sg d) (cDv g.1 sg (nI v).toInt64)) = mAns g.1 ws (aQR g.1 sg ws (mLow d g.1) (nI v).toInt64) := by
      rw [cAns_eq ha, hmv]
    have hask : cAk sg ws (cDv g.1 sg d) (cDv g.1 sg (nI v).toInt64) ↔ ¬ (ws = 5 ∧ ¬ mLow (aQR g.1 sg ws (mLow d g.1) (nI v).toInt64).2 g.1 = 0) := by
      rw [cAk_eq ha, hmv]
    refine g_iload dX10_fails_69 rfl ?_
    refine g_iload dX10_fails_71 rfl ?_
    refine g_icmp_ge (tgt := 135) dX10_fails_73 (by decide) (fun zc73 => ?_) (fun zc73 => ?_)
    · exact absurd zc73 (nI_ge (by omega) (by omega))
    · refine g_aload dX10_fails_76 rfl ?_
      refine g_iload dX10_fails_78 rfl ?_
      refine g_i2l dX10_fails_80 ?_
      refine g_aload dX10_fails_81 rfl ?_
      refine g_getf dX10_fails_83 flX10_82 (by first | exact fx _ | exact f1 _ | exact fq _ | exact su_self _ _ _) rfl ?_
      refine g_aload_n (i := 0) dX10_fails_86 rfl rfl ?_
      refine g_getf dX10_fails_87 flX10_50 (by first | exact fx _ | exact f1 _ | exact fq _ | exact su_self _ _ _) rfl ?_
      refine g_callVv (My := mX3_work) [_, _, _] dX10_fails_90 lkX10_146 mvX3_work rfl (by first | exact fx _ | exact f1 _ | exact fq _ | exact su_self _ _ _) rfl (c_X3_work hw (f1 _) (f2 _) (f3 _) (f4 _) (su_self _ _ _) (Nat.le_refl _) hst _) (by decide) (by decide) (by decide) rfl (Nat.le_of_ble_eq_true rfl) (fun σ zh90 => ?_)
      obtain ⟨mk2, ze90, hmk⟩ := zh90
      rw [ze90, su_su]
      refine g_aload_n (i := 0) dX10_fails_93 rfl rfl ?_
      refine g_getf dX10_fails_94 flX10_50 (by first | exact fx _ | exact f1 _ | exact fq _ | exact su_self _ _ _) rfl ?_
      refine g_aload dX10_fails_97 rfl ?_
      refine g_getf dX10_fails_99 flX10_82 (by first | exact fx _ | exact f1 _ | exact fq _ | exact su_self _ _ _) rfl ?_
      refine g_lald dX10_fails_102 (by first | exact fx _ | exact f1 _ | exact fq _ | exact su_self _ _ _) ((vp_in_nI (show g.2.length < 13 by omega) (by decide) : vp_in (nI g.2.length) 13)) ?_
      refine g_tol (opA g.1 g.2 (nI v).toInt64 g.2.length g.2.length) (by rw [hcl]; exact hmk _ (Nat.le_refl _)) ?_
      refine g_aload dX10_fails_103 rfl ?_
      refine g_iload dX10_fails_105 rfl ?_
      refine g_i2l dX10_fails_107 ?_
      refine g_callVl (My := mX1_answer) [_] dX10_fails_108 lkX10_150 mvX1_answer rfl (by first | exact fx _ | exact f1 _ | exact fq _ | exact su_self _ _ _) rfl (c_X1_answer (fq _) _) (by decide) (by decide) (by decide) rfl (Nat.le_of_ble_eq_true rfl) (fun zr108 σ zh108 => ?_)
      obtain ⟨ze108, zf108⟩ := zh108
      rw [ze108, zf108, hans]
      refine g_lcmp dX10_fails_111 ?_
      refine g_if_eq (tgt := 129) dX10_fails_112 (by decide) (fun zc112 => ?_) (fun zc112 => ?_)
      · first
        | exact next (fun z => z.2 ((lg_cmp_eq _ _).mp zc112)) _
        | exact next (fun z => bI_eq0.mp zc123 (hask.mpr z.1)) _
      · refine g_aload dX10_fails_115 rfl ?_
        refine g_iload dX10_fails_117 rfl ?_
        refine g_i2l dX10_fails_119 ?_
        refine g_callVi (My := mX1_asksOf) [_] dX10_fails_120 lkX10_154 mvX1_asksOf rfl (by first | exact fx _ | exact f1 _ | exact fq _ | exact su_self _ _ _) rfl (c_X1_asksOf (fq _) _) (by decide) (by decide) (by decide) rfl (Nat.le_of_ble_eq_true rfl) (fun zr120 σ zh120 => ?_)
        obtain ⟨ze120, zf120⟩ := zh120
        rw [ze120, zf120]
        refine g_if_eq (tgt := 129) dX10_fails_123 (by decide) (fun zc123 => ?_) (fun zc123 => ?_)
        · first
          | exact next (fun z => z.2 ((lg_cmp_eq _ _).mp zc112)) _
          | exact next (fun z => bI_eq0.mp zc123 (hask.mpr z.1)) _
        · refine g_iload dX10_fails_126 rfl ?_
          refine g_iret dX10_fails_128 rfl ?_
          have hbd : fBad g sg ws d v := ⟨hask.mp (bI_ne0.mp zc123), fun z => zc112 ((lg_cmp_eq _ _).mpr z)⟩
          rw [flp_t hbd] at hp
          exact hp _
theorem c_X10_fails (hR : RC τ x A) (hw : wfA A) (f sg ws : Int32) (d : Int64) : Ct l mX10_fails 5 1 4 [.ref x, .int f, .int sg, .int ws, .long d] τ (pI (cP x (sFails A f sg ws d, A))) := by
  obtain ⟨ow, ad, hk, cs, ff, hR⟩ := hR
  refine Ct_of moX10_fails [some (.ref x), some (.int f), some (.int sg), some (.int ws), some (.long d), none, none, none, none, none] rfl (Nat.le_of_ble_eq_true rfl) ?_
  rcases aForm_cases A hR.2.1.2.1 f with ⟨hh, hn⟩ | ⟨j, g, hj, rfl, hg, ha⟩
  · have hv : sFails A f sg ws d = -1 := by simp only [sFails, hn]
    rw [hv]
    refine g_aload_n (i := 0) dX10_fails_0 rfl rfl ?_
    refine g_iload_n (i := 1) dX10_fails_1 rfl rfl ?_
    refine g_callVq (My := mX10_formAt) [_] dX10_fails_2 lkX10_76 mvX10_formAt rfl (hR.1.1) rfl (c_X10_formAt0 hR hh) (by decide) (by decide) (by decide) rfl (Nat.le_of_ble_eq_true rfl) (fun zr2 σ zh2 => ?_)
    obtain ⟨rfl, rfl⟩ := zh2
    refine g_astoreN (ls' := [_, _, _, _, _, _, _, _, _, _]) dX10_fails_5 (by decide) rfl rfl ?_
    refine g_aloadN dX10_fails_7 rfl ?_
    refine g_ifnullN (tgt := 37) dX10_fails_9 (by decide) ?_
    refine g_iconst (v := (-1)) dX10_fails_37 (by decide) ?_
    refine g_iret dX10_fails_38 rfl ?_
    exact ⟨_, rfl, rfl, hR.rc⟩
  · obtain ⟨b, ka, xa, ya, kf, xf, yf, hb, p1, p2, p3, p4, hst, h12⟩ := hR.form hg
    by_cases hc : ¬ 16 < g.1 ∧ mIsA g.1 sg ws d
    · have hv : sFails A (nI j) sg ws d = flp (fBad g sg ws d) (if g.1 = 8 then 256 else 65536) 0 := by
        simp only [sFails, ha]
        exact if_pos hc
      rw [hv]
      have hwd : g.1 = 8 ∨ g.1 = 16 := by
        rcases hc.2.1 with q | q | q | q
        · exact Or.inl q
        · exact Or.inr q
        · exact absurd (by rw [q]; decide) hc.1
        · exact absurd (by rw [q]; decide) hc.1
      have hMe : (1 : Int32) <<< (g.1 &&& 31) = nI (if g.1 = 8 then 256 else 65536) := by
        rcases hwd with q | q
        · rw [q]; decide
        · rw [q]; decide
      have hM31 : (if g.1 = 8 then 256 else 65536) ≤ 65536 := by split <;> omega
      have hMw : ∀ v, v < (if g.1 = 8 then 256 else 65536) → mLow (nI v).toInt64 g.1 = (nI v).toInt64 := by
        intro v hv
        have hv2 : v < 65536 := by omega
        rw [nI_l (by omega)]
        rcases hwd with q | q
        · rw [q, if_pos rfl] at hv
          rw [q]
          exact mLow_id (N := 8) (Or.inl rfl) (by rw [uN_lN (by omega)]; exact hv)
        · rw [q]
          exact mLow_id (N := 16) (Or.inr (Or.inl rfl)) (by rw [uN_lN (by omega)]; exact hv2)
      obtain ⟨mk0, hma⟩ := hR.2.2.2.2.2.2.2.2.2.1
      have pb : ∀ q c, τ q = none → (su τ q c) b = some (gO 2 [.int g.1, .int (nI g.2.length), .ref ka, .ref xa, .ref ya]) := fun q c hq => (su_ne _ _ (p1.nq hq)).trans p1.1
      refine g_aload_n (i := 0) dX10_fails_0 rfl rfl ?_
      refine g_iload_n (i := 1) dX10_fails_1 rfl rfl ?_
      refine g_callVq (My := mX10_formAt) [_] dX10_fails_2 lkX10_76 mvX10_formAt rfl (by first | exact hR.1.1 | exact p1.1 | exact pb _ _ zhq39) rfl (c_X10_formAt1 hR hj hb) (by decide) (by decide) (by decide) rfl (Nat.le_of_ble_eq_true rfl) (fun zr2 σ zh2 => ?_)
      obtain ⟨ze2, zf2⟩ := zh2
      rw [ze2, zf2]
      refine g_tor b rfl ?_
      refine g_astore (ls' := [_, _, _, _, _, _, _, _, _, _]) dX10_fails_5 (by decide) rfl rfl ?_
      refine g_aload dX10_fails_7 rfl ?_
      refine g_ifnull dX10_fails_9 ?_
      refine g_aload dX10_fails_12 rfl ?_
      refine g_getf dX10_fails_14 flX10_89 (by first | exact hR.1.1 | exact p1.1 | exact pb _ _ zhq39) rfl ?_
      refine g_bipush (v := 16) dX10_fails_17 (by decide) ?_
      refine g_icmp_gt (tgt := 37) dX10_fails_19 (by decide) (fun zc19 => ?_) (fun zc19 => ?_)
      · exact absurd zc19 hc.1
      · refine g_aload dX10_fails_22 rfl ?_
        refine g_getf dX10_fails_24 flX10_89 (by first | exact hR.1.1 | exact p1.1 | exact pb _ _ zhq39) rfl ?_
        refine g_iload_n (i := 2) dX10_fails_27 rfl rfl ?_
        refine g_iload_n (i := 3) dX10_fails_28 rfl rfl ?_
        refine g_lload dX10_fails_29 rfl ?_
        refine g_callSi (My := mX1_isAsking) [_, _, _, _] dX10_fails_31 lkX10_108 mvX1_isAsking rfl (c_X1_isAsking _ _ _ _) (by decide) (by decide) (by decide) rfl (Nat.le_of_ble_eq_true rfl) (fun zr31 σ zh31 => ?_)
        obtain ⟨ze31, zf31⟩ := zh31
        rw [ze31, zf31]
        refine g_if_ne (tgt := 39) dX10_fails_34 (by decide) (fun zc34 => ?_) (fun zc34 => ?_)
        · refine g_new dX10_fails_39 nwX10_109 (by decide) (by decide) (fun zq39 zhq39 => ?_)
          refine g_dup dX10_fails_42 rfl ?_
          refine g_aload dX10_fails_43 rfl ?_
          refine g_getf dX10_fails_45 flX10_89 (by first | exact hR.1.1 | exact p1.1 | exact pb _ _ zhq39) rfl ?_
          refine g_iload_n (i := 2) dX10_fails_48 rfl rfl ?_
          refine g_iload_n (i := 3) dX10_fails_49 rfl rfl ?_
          refine g_lload dX10_fails_50 rfl ?_
          refine g_callIv (My := mX1_init) [_, _, _, _] dX10_fails_52 lkX10_116 mvX1_init rfl (c_X1_init (su_self _ _ _) _ _ _ _) (by decide) (by decide) (by decide) rfl (Nat.le_of_ble_eq_true rfl) (fun σ zh52 => ?_)
          rw [zh52, su_su]
          refine g_astore (ls' := [_, _, _, _, _, _, _, _, _, _]) dX10_fails_55 (by decide) rfl rfl ?_
          refine g_iconst (v := 1) dX10_fails_57 (by decide) ?_
          refine g_aload dX10_fails_58 rfl ?_
          refine g_getf dX10_fails_60 flX10_89 (by first | exact hR.1.1 | exact p1.1 | exact pb _ _ zhq39) rfl ?_
          refine g_ishl dX10_fails_63 ?_
          refine g_istore (ls' := [_, _, _, _, _, _, _, _, _, _]) dX10_fails_64 (by decide) rfl rfl ?_
          refine g_iconst (v := 0) dX10_fails_66 (by decide) ?_
          refine g_istore (ls' := [_, _, _, _, _, _, _, _, _, _]) dX10_fails_67 (by decide) rfl rfl ?_
          rw [hMe]
          have hs := Sm.none (ow := ow) zhq39 (gO 1 [.int g.1, .int (bI (sg = 1)), .int ws, .long (cDv g.1 sg d)]) 400
          have hR1 := hR.new hs
          obtain ⟨mk1, hma1⟩ := hR1.2.2.2.2.2.2.2.2.2.1
          have e := lp_X10_fails (l := l) hR1 hg (hw j g hg) hb sg ws d hc.2 ⟨su_self _ _ _, va_up_self _ _ _⟩ _ hM31 hMw (post := pI (cP x (flp (fBad g sg ws d) (if g.1 = 8 then 256 else 65536) 0, A))) (some (.int (nI j))) _ 0 mk1 (by omega) (fun mk' => ⟨_, rfl, rfl, (hR1.oth (Sm.stp hma1.2 _) ⟨mk', hma1.up _⟩).rc⟩)
          rw [su_id hma1.1] at e
          exact g_bud (by decide) (by decide) e
        · exact absurd hc.2 (bI_eq0.mp zc34)
    · have hv : sFails A (nI j) sg ws d = -1 := by
        simp only [sFails, ha]
        exact if_neg hc
      rw [hv]
      refine g_aload_n (i := 0) dX10_fails_0 rfl rfl ?_
      refine g_iload_n (i := 1) dX10_fails_1 rfl rfl ?_
      refine g_callVq (My := mX10_formAt) [_] dX10_fails_2 lkX10_76 mvX10_formAt rfl (by first | exact hR.1.1 | exact p1.1) rfl (c_X10_formAt1 hR hj hb) (by decide) (by decide) (by decide) rfl (Nat.le_of_ble_eq_true rfl) (fun zr2 σ zh2 => ?_)
      obtain ⟨ze2, zf2⟩ := zh2
      rw [ze2, zf2]
      refine g_tor b rfl ?_
      refine g_astore (ls' := [_, _, _, _, _, _, _, _, _, _]) dX10_fails_5 (by decide) rfl rfl ?_
      refine g_aload dX10_fails_7 rfl ?_
      refine g_ifnull dX10_fails_9 ?_
      refine g_aload dX10_fails_12 rfl ?_
      refine g_getf dX10_fails_14 flX10_89 (by first | exact hR.1.1 | exact p1.1) rfl ?_
      refine g_bipush (v := 16) dX10_fails_17 (by decide) ?_
      refine g_icmp_gt (tgt := 37) dX10_fails_19 (by decide) (fun zc19 => ?_) (fun zc19 => ?_)
      · refine g_iconst (v := (-1)) dX10_fails_37 (by decide) ?_
        refine g_iret dX10_fails_38 rfl ?_
        exact ⟨_, rfl, rfl, hR.rc⟩
      · refine g_aload dX10_fails_22 rfl ?_
        refine g_getf dX10_fails_24 flX10_89 (by first | exact hR.1.1 | exact p1.1) rfl ?_
        refine g_iload_n (i := 2) dX10_fails_27 rfl rfl ?_
        refine g_iload_n (i := 3) dX10_fails_28 rfl rfl ?_
        refine g_lload dX10_fails_29 rfl ?_
        refine g_callSi (My := mX1_isAsking) [_, _, _, _] dX10_fails_31 lkX10_108 mvX1_isAsking rfl (c_X1_isAsking _ _ _ _) (by decide) (by decide) (by decide) rfl (Nat.le_of_ble_eq_true rfl) (fun zr31 σ zh31 => ?_)
        obtain ⟨ze31, zf31⟩ := zh31
        rw [ze31, zf31]
        refine g_if_ne (tgt := 39) dX10_fails_34 (by decide) (fun zc34 => ?_) (fun zc34 => ?_)
        · exact absurd ⟨zc19, bI_ne0.mp zc34⟩ hc
        · refine g_iconst (v := (-1)) dX10_fails_37 (by decide) ?_
          refine g_iret dX10_fails_38 rfl ?_
          exact ⟨_, rfl, rfl, hR.rc⟩
end CPub4
