/-! twos and odd parts; the class's Writer begins -/
def Tz (D : Int64) (z : Nat) : Prop := z < 64 ∧ uN D / 2 ^ z % 2 = 1 ∧ uN D % 2 ^ z = 0
theorem Tz_of {D : Int64} {z : Nat} (h : isTz D z) : Tz D z := by
  obtain ⟨h1, h2, h3⟩ := h
  have e : ∀ j, j < 64 → (gUshr D (nI j) &&& 1 = 0 ↔ uN D / 2 ^ j % 2 = 0) := fun j hj => by rw [uN_bit, uN_gUshr D hj]
  refine ⟨h1, ?_, ?_⟩
  · have := mt (e z h1).mpr h2
    omega
  · have key : ∀ k, k ≤ z → uN D % 2 ^ k = 0 := by
      intro k
      induction k with
      | zero => intro _; rw [Nat.pow_zero, Nat.mod_one]
      | succ k ih =>
        intro hk
        rw [Nat.mod_pow_succ, ih (by omega), (e k (by omega)).mp (h3 k (by omega)), Nat.mul_zero]
    exact key z (Nat.le_refl _)
theorem isTz_ex {D : Int64} (h : ¬ D = 0) : ∃ z, isTz D z := by
  have e : ∀ j, j < 64 → (gUshr D (nI j) &&& 1 = 0 ↔ uN D / 2 ^ j % 2 = 0) := fun j hj => by rw [uN_bit, uN_gUshr D hj]
  have hD := ne0_N.mp h
  have hl := uN_lt D
  have hex : ∃ k, k < 64 ∧ ¬ uN D / 2 ^ k % 2 = 0 := by
    apply Classical.byContradiction
    intro hno
    have key : ∀ k, k ≤ 64 → uN D % 2 ^ k = 0 := by
      intro k
      induction k with
      | zero => intro _; rw [Nat.pow_zero, Nat.mod_one]
      | succ k ih =>
        intro hk
        have hb : uN D / 2 ^ k % 2 = 0 := Classical.byContradiction (fun z => hno ⟨k, by omega, z⟩)
        rw [Nat.mod_pow_succ, ih (by omega), hb, Nat.mul_zero]
    have := key 64 (Nat.le_refl _)
    rw [pw64, Nat.mod_eq_of_lt hl] at this
    omega
  obtain ⟨k, ⟨k1, k2⟩, k3⟩ := pk_least (fun k => k < 64 ∧ ¬ uN D / 2 ^ k % 2 = 0) hex
  refine ⟨k, k1, fun z => k2 ((e k k1).mp z), fun j hj => (e j (by omega)).mpr ?_⟩
  exact Classical.byContradiction (fun z => k3 j hj ⟨by omega, z⟩)
theorem Tz.od {D : Int64} {z : Nat} (h : Tz D z) : uN (gUshr D (nI z)) = uN D / 2 ^ z := uN_gUshr D h.1
theorem Tz.eq {D : Int64} {z : Nat} (h : Tz D z) : uN D = 2 ^ z * (uN D / 2 ^ z) := by
  have := Nat.div_add_mod (uN D) (2 ^ z)
  rw [h.2.2, Nat.add_zero] at this
  exact this.symm
theorem od_dvd {o N : Nat} (ho : o % 2 = 1) (h : o ∣ 2 ^ N) : o = 1 := by
  induction N with
  | zero => exact Nat.dvd_one.mp h
  | succ n ih =>
    rw [Nat.pow_succ] at h
    have hc : Nat.Coprime o 2 := by
      rw [Nat.coprime_comm, Nat.coprime_iff_gcd_eq_one]
      have : Nat.gcd 2 o = Nat.gcd (o % 2) 2 := by rw [← Nat.gcd_rec]
      rw [this, ho]
      decide
    exact ih (hc.dvd_of_dvd_mul_right h)
theorem Tz.nd {D : Int64} {z N : Nat} (h : Tz D z) (ho : ¬ gUshr D (nI z) = 1) : 2 ^ N % uN D ≠ 0 := by
  intro hz
  refine ho (uN_inj ?_)
  rw [h.od]
  have hd : uN D ∣ 2 ^ N := Nat.dvd_of_mod_eq_zero hz
  have hd2 : uN D / 2 ^ z ∣ 2 ^ N := Nat.dvd_trans ⟨2 ^ z, by rw [Nat.mul_comm]; exact h.eq⟩ hd
  rw [od_dvd h.2.1 hd2]
  decide
theorem Tz.sp {D : Int64} {z : Nat} (h : Tz D z) : uN D = 2 ^ (z + 1) * (uN D / 2 ^ (z + 1)) + 2 ^ z := by
  have e1 := h.eq
  have e2 : uN D / 2 ^ (z + 1) = uN D / 2 ^ z / 2 := by rw [Nat.pow_succ, Nat.div_div_eq_div_mul]
  rw [e2, Nat.pow_succ]
  have h2 := h.2.1
  generalize uN D / 2 ^ z = o at *
  have e3 : o = 2 * (o / 2) + 1 := by omega
  generalize o / 2 = k at *
  rw [e1, e3, Nat.mul_add, Nat.mul_one, ← Nat.mul_assoc]
theorem Tz.low {D : Int64} {z : Nat} (h : Tz D z) : D &&& -D = lN (2 ^ z) := by
  apply uN_inj
  have hl := uN_lt D
  have hz : 2 ^ z < 18446744073709551616 := by rw [← pw64]; exact Nat.pow_lt_pow_right (by decide) h.1
  have hsp := h.sp
  have hp := Nat.two_pow_pos z
  have hD : 0 < uN D := by omega
  rw [uN_and, uN_neg, uN_lN hz, Nat.mod_eq_of_lt (show 18446744073709551616 - uN D < 18446744073709551616 by omega)]
  apply Nat.eq_of_testBit_eq
  intro i
  rw [Nat.testBit_and]
  have hneg : 18446744073709551616 - uN D = 2 ^ 64 - ((uN D - 1) + 1) := by
    rw [pw64, Nat.sub_add_cancel hD]
  rw [hneg, Nat.testBit_two_pow_sub_succ (by rw [pw64]; omega)]
  have hb1 : 2 ^ z < 2 ^ (z + 1) := Nat.pow_lt_pow_right (by decide) (by omega)
  have hD1 : uN D - 1 = 2 ^ (z + 1) * (uN D / 2 ^ (z + 1)) + (2 ^ z - 1) := by omega
  have t1 : Nat.testBit (uN D) i = if i < z + 1 then Nat.testBit (2 ^ z) i else Nat.testBit (uN D / 2 ^ (z + 1)) (i - (z + 1)) := by
    have := Nat.testBit_two_pow_mul_add (uN D / 2 ^ (z + 1)) hb1 i
    rw [← hsp] at this
    exact this
  have t2 : Nat.testBit (uN D - 1) i = if i < z + 1 then Nat.testBit (2 ^ z - 1) i else Nat.testBit (uN D / 2 ^ (z + 1)) (i - (z + 1)) := by
    rw [hD1]
    exact Nat.testBit_two_pow_mul_add _ (show 2 ^ z - 1 < 2 ^ (z + 1) by omega) i
  rw [t1, t2, Nat.testBit_two_pow]
  by_cases hi : i < z + 1
  · rw [if_pos hi, if_pos hi, Nat.testBit_two_pow_sub_one]
    have hz64 := h.1
    by_cases e : z = i
    · subst e
      simp [hz64]
    · simp [e]
  · rw [if_neg hi, if_neg hi]
    have : ¬ z = i := by omega
    cases Nat.testBit (uN D / 2 ^ (z + 1)) (i - (z + 1)) <;> simp [this]
theorem Tz.p2 {D : Int64} {z : Nat} (h : Tz D z) : D &&& (D - 1) = 0 ↔ gUshr D (nI z) = 1 := by
  have hsp := h.sp
  have hp := Nat.two_pow_pos z
  have hl := uN_lt D
  have hD : 0 < uN D := by omega
  have hs1 : uN (D - 1) = uN D - 1 := by
    rw [uN_sub, show uN 1 = 1 from by decide]
    omega
  constructor
  · intro hz
    apply uN_inj
    rw [h.od, show uN 1 = 1 from by decide]
    have e0 : uN D &&& (uN D - 1) = 0 := by
      rw [← hs1, ← uN_and, hz]
      decide
    have hq : (uN D - 1) / 2 ^ (z + 1) = uN D / 2 ^ (z + 1) := by
      have hb1 : 2 ^ z < 2 ^ (z + 1) := Nat.pow_lt_pow_right (by decide) (by omega)
      have hD1 : uN D - 1 = 2 ^ (z + 1) * (uN D / 2 ^ (z + 1)) + (2 ^ z - 1) := by omega
      rw [hD1, Nat.mul_add_div (Nat.two_pow_pos _), Nat.div_eq_of_lt (show 2 ^ z - 1 < 2 ^ (z + 1) by omega), Nat.add_zero]
    have e1 : (uN D &&& (uN D - 1)) >>> (z + 1) = uN D / 2 ^ (z + 1) := by
      rw [Nat.shiftRight_and_distrib, Nat.shiftRight_eq_div_pow, Nat.shiftRight_eq_div_pow, hq, Nat.and_self]
    rw [e0, Nat.zero_shiftRight] at e1
    rw [← e1, Nat.mul_zero, Nat.zero_add] at hsp
    rw [hsp]
    exact Nat.div_self hp
  · intro ho
    have e1 : uN D = 2 ^ z := by
      have := h.eq
      rw [← h.od, ho, show uN 1 = 1 from by decide, Nat.mul_one] at this
      exact this
    apply uN_inj
    rw [uN_and, hs1, e1, Nat.and_two_pow_sub_one_eq_mod, Nat.mod_self]
    decide
def bc1 (v : Int64) : Int64 := v - (gUshr v 1 &&& 6148914691236517205)
def bc2 (v : Int64) : Int64 := (v &&& 3689348814741910323) + (gUshr v 2 &&& 3689348814741910323)
def bc3 (v : Int64) : Int64 := (v + gUshr v 4) &&& 1085102592571150095
def bc4 (v : Int64) (k : Int32) : Int64 := v + gUshr v k
def bcF (v : Int64) : Int32 := (bc4 (bc4 (bc4 (bc3 (bc2 (bc1 v))) 8) 16) 32).toInt32 &&& 127
theorem bcF_p : ∀ z, z < 64 → bcF (lN (2 ^ z) - 1) = nI z := by decide +kernel
theorem c_bitCount {l : Launch} {τ : gH} (v : Int64) : Ct l mJ13_bitCount_95d88 1 0 0 [.long v] τ (pI fun r σ' => r = bcF v ∧ σ' = τ) := by
  refine Ct_of moJ13_bitCount_95d88 [some (.long v), none] rfl (Nat.le_of_ble_eq_true rfl) ?_
  refine g_lload_n (i := 0) dJ13_bitCount_95d88_0 rfl rfl ?_
  refine g_lload_n (i := 0) dJ13_bitCount_95d88_1 rfl rfl ?_
  refine g_iconst (v := 1) dJ13_bitCount_95d88_2 (by decide) ?_
  refine g_lushr dJ13_bitCount_95d88_3 ?_
  refine g_ldc2 (v := 6148914691236517205) dJ13_bitCount_95d88_4 klJ13_314 ?_
  refine g_land dJ13_bitCount_95d88_7 ?_
  refine g_lsub dJ13_bitCount_95d88_8 ?_
  refine g_lstore_n (i := 0) (ls' := [_, _]) dJ13_bitCount_95d88_9 rfl (by decide) rfl rfl ?_
  refine g_lload_n (i := 0) dJ13_bitCount_95d88_10 rfl rfl ?_
  refine g_ldc2 (v := 3689348814741910323) dJ13_bitCount_95d88_11 klJ13_316 ?_
  refine g_land dJ13_bitCount_95d88_14 ?_
  refine g_lload_n (i := 0) dJ13_bitCount_95d88_15 rfl rfl ?_
  refine g_iconst (v := 2) dJ13_bitCount_95d88_16 (by decide) ?_
  refine g_lushr dJ13_bitCount_95d88_17 ?_
  refine g_ldc2 (v := 3689348814741910323) dJ13_bitCount_95d88_18 klJ13_316 ?_
  refine g_land dJ13_bitCount_95d88_21 ?_
  refine g_ladd dJ13_bitCount_95d88_22 ?_
  refine g_lstore_n (i := 0) (ls' := [_, _]) dJ13_bitCount_95d88_23 rfl (by decide) rfl rfl ?_
  refine g_lload_n (i := 0) dJ13_bitCount_95d88_24 rfl rfl ?_
  refine g_lload_n (i := 0) dJ13_bitCount_95d88_25 rfl rfl ?_
  refine g_iconst (v := 4) dJ13_bitCount_95d88_26 (by decide) ?_
  refine g_lushr dJ13_bitCount_95d88_27 ?_
  refine g_ladd dJ13_bitCount_95d88_28 ?_
  refine g_ldc2 (v := 1085102592571150095) dJ13_bitCount_95d88_29 klJ13_318 ?_
  refine g_land dJ13_bitCount_95d88_32 ?_
  refine g_lstore_n (i := 0) (ls' := [_, _]) dJ13_bitCount_95d88_33 rfl (by decide) rfl rfl ?_
  refine g_lload_n (i := 0) dJ13_bitCount_95d88_34 rfl rfl ?_
  refine g_lload_n (i := 0) dJ13_bitCount_95d88_35 rfl rfl ?_
  refine g_bipush (v := 8) dJ13_bitCount_95d88_36 (by decide) ?_
  refine g_lushr dJ13_bitCount_95d88_38 ?_
  refine g_ladd dJ13_bitCount_95d88_39 ?_
  refine g_lstore_n (i := 0) (ls' := [_, _]) dJ13_bitCount_95d88_40 rfl (by decide) rfl rfl ?_
  refine g_lload_n (i := 0) dJ13_bitCount_95d88_41 rfl rfl ?_
  refine g_lload_n (i := 0) dJ13_bitCount_95d88_42 rfl rfl ?_
  refine g_bipush (v := 16) dJ13_bitCount_95d88_43 (by decide) ?_
  refine g_lushr dJ13_bitCount_95d88_45 ?_
  refine g_ladd dJ13_bitCount_95d88_46 ?_
  refine g_lstore_n (i := 0) (ls' := [_, _]) dJ13_bitCount_95d88_47 rfl (by decide) rfl rfl ?_
  refine g_lload_n (i := 0) dJ13_bitCount_95d88_48 rfl rfl ?_
  refine g_lload_n (i := 0) dJ13_bitCount_95d88_49 rfl rfl ?_
  refine g_bipush (v := 32) dJ13_bitCount_95d88_50 (by decide) ?_
  refine g_lushr dJ13_bitCount_95d88_52 ?_
  refine g_ladd dJ13_bitCount_95d88_53 ?_
  refine g_lstore_n (i := 0) (ls' := [_, _]) dJ13_bitCount_95d88_54 rfl (by decide) rfl rfl ?_
  refine g_lload_n (i := 0) dJ13_bitCount_95d88_55 rfl rfl ?_
  refine g_l2i dJ13_bitCount_95d88_56 ?_
  refine g_bipush (v := 127) dJ13_bitCount_95d88_57 (by decide) ?_
  refine g_iand dJ13_bitCount_95d88_59 ?_
  refine g_iret dJ13_bitCount_95d88_60 rfl ?_
  exact ⟨_, rfl, rfl, rfl⟩
theorem sig_neg (v : Int64) {w : Int32} (h : isW w) : mSig v w < 0 ↔ mUp (mLow v w) w := by
  obtain ⟨N, hN, rfl⟩ := isW_N h
  have hl := mLow_lt v hN
  have hu := mUp_lt hN hl
  rw [hu, Int64.lt_iff_toInt_lt, i64c4, sig_int _ hN]
  rw [uN_mLow v hN] at hl ⊢
  rcases hN with rfl | rfl | rfl | rfl
  · simp only [Nat.reduceSub, Nat.reducePow] at *; split <;> omega
  · simp only [Nat.reduceSub, Nat.reducePow] at *; split <;> omega
  · simp only [Nat.reduceSub, Nat.reducePow] at *; split <;> omega
  · simp only [Nat.reduceSub, Nat.reducePow] at *; split <;> omega
theorem low_sig (v : Int64) {w : Int32} (h : isW w) : uN (mSig v w) % 2 ^ w.toNatClampNeg = uN v % 2 ^ w.toNatClampNeg := by
  obtain ⟨N, hN, rfl⟩ := isW_N h
  rw [nI_clamp (by omega)]
  have e := sig_int v hN
  have hi := uN_int (mSig v (nI N))
  have hl := uN_lt (mSig v (nI N))
  rcases hN with rfl | rfl | rfl | rfl
  · simp only [Nat.reducePow] at *; split at e <;> split at hi <;> omega
  · simp only [Nat.reducePow] at *; split at e <;> split at hi <;> omega
  · simp only [Nat.reducePow] at *; split at e <;> split at hi <;> omega
  · simp only [Nat.reducePow] at *; split at e <;> split at hi <;> omega
theorem neg_low {a b : Int64} {N : Nat} (hN : N = 8 ∨ N = 16 ∨ N = 32 ∨ N = 64) (h : uN a % 2 ^ N = uN b % 2 ^ N) : mLow (-a) (nI N) = mLow (-b) (nI N) := by
  have ha := uN_lt a
  have hb := uN_lt b
  apply uN_inj
  rw [uN_mLow _ hN, uN_mLow _ hN, uN_neg, uN_neg]
  rcases hN with rfl | rfl | rfl | rfl
  · simp only [Nat.reducePow] at *; omega
  · simp only [Nat.reducePow] at *; omega
  · simp only [Nat.reducePow] at *; omega
  · simp only [Nat.reducePow] at *; omega
theorem sz_eq {w sg : Int32} {d : Int64} (hw : isW w) (hs : sg = 0 ∨ sg = 1) : (if sg = 1 ∧ cDv w sg d < 0 then -(cDv w sg d) else cDv w sg d) &&& bMask w = mSz w sg d := by
  rw [low_eq _ hw]
  unfold mSz
  rcases hs with rfl | rfl
  · have e : cDv w 0 d = mLow d w := by unfold cDv; rw [if_neg (by decide), low_eq _ hw]
    rw [if_neg (fun z => absurd z.1 (by decide)), if_neg (fun z => absurd z.1 (by decide)), e, mLow_mLow _ hw]
  · have e : cDv w 1 d = mSig d w := by unfold cDv; rw [if_pos rfl, sig_eq _ hw]
    rw [e]
    have hn := sig_neg d hw
    have hls := low_sig d hw
    obtain ⟨N, hN, hwN⟩ := isW_N hw
    subst hwN
    rw [nI_clamp (by omega)] at hls
    by_cases hc : mUp (mLow d (nI N)) (nI N)
    · rw [if_pos ⟨rfl, hn.mpr hc⟩, if_pos ⟨rfl, hc⟩]
      refine neg_low hN ?_
      rw [hls, uN_mLow _ hN, Nat.mod_mod]
    · rw [if_neg (fun z => hc (hn.mp z.2)), if_neg (fun z => hc z.2)]
      apply uN_inj
      rw [uN_mLow _ hN, uN_mLow _ hN, hls]
theorem sz_pos {w sg ws : Int32} {d : Int64} (h : mIsA w sg ws d) : ¬ mSz w sg d = 0 := by
  intro hz
  obtain ⟨hw, hs, -, hd, -⟩ := h
  unfold mSz at hz
  obtain ⟨N, hN, rfl⟩ := isW_N hw
  by_cases hc : sg = 1 ∧ mUp (mLow d (nI N)) (nI N)
  · rw [if_pos hc] at hz
    refine hd (uN_inj ?_)
    have e := uN_mLow (-(mLow d (nI N))) hN
    rw [hz, uN_neg, show uN 0 = 0 from by decide] at e
    have hl := mLow_lt d hN
    rw [show uN 0 = 0 from by decide]
    rcases hN with rfl | rfl | rfl | rfl
    · simp only [Nat.reducePow] at *; omega
    · simp only [Nat.reducePow] at *; omega
    · simp only [Nat.reducePow] at *; omega
    · simp only [Nat.reducePow] at *; omega
  · rw [if_neg hc] at hz
    exact hd hz
theorem sz_lt {w sg : Int32} {d : Int64} {N : Nat} (hN : N = 8 ∨ N = 16 ∨ N = 32 ∨ N = 64) (hw : w = nI N) : uN (mSz w sg d) < 2 ^ N := by
  unfold mSz
  rw [hw]
  split
  · exact mLow_lt _ hN
  · exact mLow_lt _ hN
section CWinit
variable {l : Launch} {τ : gH}
theorem c_X9_init {wq b aq : Nat} (h0 : τ wq = some (gO 7 [.null, .null, .int 0, .long 0, .int 0, .long 0])) {w sg ws : Int32} {d : Int64} (ha : τ aq = some (gO 1 [.int w, .int (bI (sg = 1)), .int ws, .long (cDv w sg d)])) (hw : isW w) (hs : sg = 0 ∨ sg = 1) {tz : Nat} (hz : isTz (mSz w sg d) tz) : Ct l mX9_init 2 0 0 [.ref wq, .ref b, .ref aq] τ (pV fun σ' => σ' = su τ wq (gO 7 [.ref b, .ref aq, .int w, .long (mSz w sg d), .int (nI tz), .long (gUshr (mSz w sg d) (nI tz))])) := by
  have ne : aq ≠ wq := fun e => by rw [e, h0] at ha; cases ha
  have hT := Tz_of hz
  have hbc : bcF ((mSz w sg d &&& -(mSz w sg d)) - 1) = nI tz := by rw [hT.low]; exact bcF_p tz hz.1
  have hsz := sz_eq (d := d) hw hs
  refine Ct_of moX9_init [some (.ref wq), some (.ref b), some (.ref aq), none, none] rfl (Nat.le_of_ble_eq_true rfl) ?_
  refine g_aload_n (i := 0) dX9_init_0 rfl rfl ?_
  refine g_objInit dX9_init_1 lkX9_1 oi_inst oi_code (by decide) (Nat.le_of_ble_eq_true rfl) ?_
  refine g_aload_n (i := 0) dX9_init_4 rfl rfl ?_
  refine g_aload_n (i := 1) dX9_init_5 rfl rfl ?_
  refine g_putF (fs' := [_, _, _, _, _, _]) dX9_init_6 flX9_7 fp7_0 rfl rfl (by first | assumption | exact su_self _ _ _ | (simp only [su_ne _ _ ne]; assumption)) rfl rfl (Nat.le_of_ble_eq_true rfl) rfl fLX9_7 ?_
  refine g_aload_n (i := 0) dX9_init_9 rfl rfl ?_
  refine g_aload_n (i := 2) dX9_init_10 rfl rfl ?_
  refine g_putF (fs' := [_, _, _, _, _, _]) dX9_init_11 flX9_13 fp7_1 rfl rfl (by first | assumption | exact su_self _ _ _ | (simp only [su_ne _ _ ne]; assumption)) rfl rfl (Nat.le_of_ble_eq_true rfl) rfl fLX9_13 ?_
  refine g_aload_n (i := 0) dX9_init_14 rfl rfl ?_
  refine g_aload_n (i := 2) dX9_init_15 rfl rfl ?_
  refine g_getf dX9_init_16 flX9_17 (by first | assumption | exact su_self _ _ _ | (simp only [su_ne _ _ ne]; assumption)) rfl ?_
  refine g_putF (fs' := [_, _, _, _, _, _]) dX9_init_19 flX9_23 fp7_2 rfl rfl (by first | assumption | exact su_self _ _ _ | (simp only [su_ne _ _ ne]; assumption)) rfl rfl (Nat.le_of_ble_eq_true rfl) rfl fLX9_23 ?_
  refine g_aload_n (i := 2) dX9_init_22 rfl rfl ?_
  refine g_getf dX9_init_23 flX9_24 (by first | assumption | exact su_self _ _ _ | (simp only [su_ne _ _ ne]; assumption)) rfl ?_
  refine g_lstore_n (i := 3) (ls' := [_, _, _, _, _]) dX9_init_26 rfl (by decide) rfl rfl ?_
  refine g_aload_n (i := 0) dX9_init_27 rfl rfl ?_
  refine g_aload_n (i := 2) dX9_init_28 rfl rfl ?_
  refine g_getf dX9_init_29 flX9_28 (by first | assumption | exact su_self _ _ _ | (simp only [su_ne _ _ ne]; assumption)) rfl ?_
  refine g_if_eq (tgt := 46) dX9_init_32 (by decide) (fun zc32 => ?_) (fun zc32 => ?_)
  · refine g_lload_n (i := 3) dX9_init_46 rfl rfl ?_
    refine g_aload_n (i := 0) dX9_init_47 rfl rfl ?_
    refine g_getf dX9_init_48 flX9_23 (by first | assumption | exact su_self _ _ _ | (simp only [su_ne _ _ ne]; assumption)) rfl ?_
    refine g_callSl (My := mX2_mask) [_] dX9_init_51 lkX9_32 mvX2_mask rfl (c_X2_mask _) (by decide) (by decide) (by decide) rfl (Nat.le_of_ble_eq_true rfl) (fun zr51 σ zh51 => ?_)
    obtain ⟨ze51, zf51⟩ := zh51
    rw [ze51, zf51]
    refine g_land dX9_init_54 ?_
    first
    | rw [show cDv w sg d &&& bMask w = mSz w sg d from by (rw [← hsz, if_neg (fun z => bI_eq0.mp zc32 z.1)])]
    | rw [show cDv w sg d &&& bMask w = mSz w sg d from by (rw [← hsz, if_neg (fun z => absurd ((lg_cmp_ge _ _).mp zc38) (Int64.not_le.mpr z.2))])]
    | rw [show -(cDv w sg d) &&& bMask w = mSz w sg d from by (rw [← hsz, if_pos ⟨bI_ne0.mp zc32, Int64.not_le.mp (fun z => zc38 ((lg_cmp_ge _ _).mpr z))⟩])]
    refine g_putF (fs' := [_, _, _, _, _, _]) dX9_init_55 flX9_38 fp7_3 rfl rfl (by first | assumption | exact su_self _ _ _ | (simp only [su_ne _ _ ne]; assumption)) rfl rfl (Nat.le_of_ble_eq_true rfl) rfl fLX9_38 ?_
    refine g_aload_n (i := 0) dX9_init_58 rfl rfl ?_
    refine g_aload_n (i := 0) dX9_init_59 rfl rfl ?_
    refine g_getf dX9_init_60 flX9_38 (by first | assumption | exact su_self _ _ _ | (simp only [su_ne _ _ ne]; assumption)) rfl ?_
    refine g_aload_n (i := 0) dX9_init_63 rfl rfl ?_
    refine g_getf dX9_init_64 flX9_38 (by first | assumption | exact su_self _ _ _ | (simp only [su_ne _ _ ne]; assumption)) rfl ?_
    refine g_lneg dX9_init_67 ?_
    refine g_land dX9_init_68 ?_
    refine g_lconst (v := 1) dX9_init_69 (by decide) ?_
    refine g_lsub dX9_init_70 ?_
    refine g_callSi (My := mJ13_bitCount_95d88) [_] dX9_init_71 lkX9_41 mvJ13_bitCount_95d88 rfl (c_bitCount _) (by decide) (by decide) (by decide) rfl (Nat.le_of_ble_eq_true rfl) (fun zr71 σ zh71 => ?_)
    obtain ⟨ze71, zf71⟩ := zh71
    rw [ze71, zf71, hbc]
    refine g_putF (fs' := [_, _, _, _, _, _]) dX9_init_74 flX9_47 fp7_4 rfl rfl (by first | assumption | exact su_self _ _ _ | (simp only [su_ne _ _ ne]; assumption)) rfl rfl (Nat.le_of_ble_eq_true rfl) rfl fLX9_47 ?_
    refine g_aload_n (i := 0) dX9_init_77 rfl rfl ?_
    refine g_aload_n (i := 0) dX9_init_78 rfl rfl ?_
    refine g_getf dX9_init_79 flX9_38 (by first | assumption | exact su_self _ _ _ | (simp only [su_ne _ _ ne]; assumption)) rfl ?_
    refine g_aload_n (i := 0) dX9_init_82 rfl rfl ?_
    refine g_getf dX9_init_83 flX9_47 (by first | assumption | exact su_self _ _ _ | (simp only [su_ne _ _ ne]; assumption)) rfl ?_
    refine g_lushr dX9_init_86 ?_
    refine g_putF (fs' := [_, _, _, _, _, _]) dX9_init_87 flX9_50 fp7_5 rfl rfl (by first | assumption | exact su_self _ _ _ | (simp only [su_ne _ _ ne]; assumption)) rfl rfl (Nat.le_of_ble_eq_true rfl) rfl fLX9_50 ?_
    refine g_vret dX9_init_90 rfl ?_
    exact ⟨rfl, by simp only [su_su]⟩
  · refine g_lload_n (i := 3) dX9_init_35 rfl rfl ?_
    refine g_lconst (v := 0) dX9_init_36 (by decide) ?_
    refine g_lcmp dX9_init_37 ?_
    refine g_if_ge (tgt := 46) dX9_init_38 (by decide) (fun zc38 => ?_) (fun zc38 => ?_)
    · refine g_lload_n (i := 3) dX9_init_46 rfl rfl ?_
      refine g_aload_n (i := 0) dX9_init_47 rfl rfl ?_
      refine g_getf dX9_init_48 flX9_23 (by first | assumption | exact su_self _ _ _ | (simp only [su_ne _ _ ne]; assumption)) rfl ?_
      refine g_callSl (My := mX2_mask) [_] dX9_init_51 lkX9_32 mvX2_mask rfl (c_X2_mask _) (by decide) (by decide) (by decide) rfl (Nat.le_of_ble_eq_true rfl) (fun zr51 σ zh51 => ?_)
      obtain ⟨ze51, zf51⟩ := zh51
      rw [ze51, zf51]
      refine g_land dX9_init_54 ?_
      first
      | rw [show cDv w sg d &&& bMask w = mSz w sg d from by (rw [← hsz, if_neg (fun z => bI_eq0.mp zc32 z.1)])]
      | rw [show cDv w sg d &&& bMask w = mSz w sg d from by (rw [← hsz, if_neg (fun z => absurd ((lg_cmp_ge _ _).mp zc38) (Int64.not_le.mpr z.2))])]
      | rw [show -(cDv w sg d) &&& bMask w = mSz w sg d from by (rw [← hsz, if_pos ⟨bI_ne0.mp zc32, Int64.not_le.mp (fun z => zc38 ((lg_cmp_ge _ _).mpr z))⟩])]
      refine g_putF (fs' := [_, _, _, _, _, _]) dX9_init_55 flX9_38 fp7_3 rfl rfl (by first | assumption | exact su_self _ _ _ | (simp only [su_ne _ _ ne]; assumption)) rfl rfl (Nat.le_of_ble_eq_true rfl) rfl fLX9_38 ?_
      refine g_aload_n (i := 0) dX9_init_58 rfl rfl ?_
      refine g_aload_n (i := 0) dX9_init_59 rfl rfl ?_
      refine g_getf dX9_init_60 flX9_38 (by first | assumption | exact su_self _ _ _ | (simp only [su_ne _ _ ne]; assumption)) rfl ?_
      refine g_aload_n (i := 0) dX9_init_63 rfl rfl ?_
      refine g_getf dX9_init_64 flX9_38 (by first | assumption | exact su_self _ _ _ | (simp only [su_ne _ _ ne]; assumption)) rfl ?_
      refine g_lneg dX9_init_67 ?_
      refine g_land dX9_init_68 ?_
      refine g_lconst (v := 1) dX9_init_69 (by decide) ?_
      refine g_lsub dX9_init_70 ?_
      refine g_callSi (My := mJ13_bitCount_95d88) [_] dX9_init_71 lkX9_41 mvJ13_bitCount_95d88 rfl (c_bitCount _) (by decide) (by decide) (by decide) rfl (Nat.le_of_ble_eq_true rfl) (fun zr71 σ zh71 => ?_)
      obtain ⟨ze71, zf71⟩ := zh71
      rw [ze71, zf71, hbc]
      refine g_putF (fs' := [_, _, _, _, _, _]) dX9_init_74 flX9_47 fp7_4 rfl rfl (by first | assumption | exact su_self _ _ _ | (simp only [su_ne _ _ ne]; assumption)) rfl rfl (Nat.le_of_ble_eq_true rfl) rfl fLX9_47 ?_
      refine g_aload_n (i := 0) dX9_init_77 rfl rfl ?_
      refine g_aload_n (i := 0) dX9_init_78 rfl rfl ?_
      refine g_getf dX9_init_79 flX9_38 (by first | assumption | exact su_self _ _ _ | (simp only [su_ne _ _ ne]; assumption)) rfl ?_
      refine g_aload_n (i := 0) dX9_init_82 rfl rfl ?_
      refine g_getf dX9_init_83 flX9_47 (by first | assumption | exact su_self _ _ _ | (simp only [su_ne _ _ ne]; assumption)) rfl ?_
      refine g_lushr dX9_init_86 ?_
      refine g_putF (fs' := [_, _, _, _, _, _]) dX9_init_87 flX9_50 fp7_5 rfl rfl (by first | assumption | exact su_self _ _ _ | (simp only [su_ne _ _ ne]; assumption)) rfl rfl (Nat.le_of_ble_eq_true rfl) rfl fLX9_50 ?_
      refine g_vret dX9_init_90 rfl ?_
      exact ⟨rfl, by simp only [su_su]⟩
    · refine g_lload_n (i := 3) dX9_init_41 rfl rfl ?_
      refine g_lneg dX9_init_42 ?_
      refine g_goto (tgt := 47) dX9_init_43 (by decide) ?_
      refine g_aload_n (i := 0) dX9_init_47 rfl rfl ?_
      refine g_getf dX9_init_48 flX9_23 (by first | assumption | exact su_self _ _ _ | (simp only [su_ne _ _ ne]; assumption)) rfl ?_
      refine g_callSl (My := mX2_mask) [_] dX9_init_51 lkX9_32 mvX2_mask rfl (c_X2_mask _) (by decide) (by decide) (by decide) rfl (Nat.le_of_ble_eq_true rfl) (fun zr51 σ zh51 => ?_)
      obtain ⟨ze51, zf51⟩ := zh51
      rw [ze51, zf51]
      refine g_land dX9_init_54 ?_
      first
      | rw [show cDv w sg d &&& bMask w = mSz w sg d from by (rw [← hsz, if_neg (fun z => bI_eq0.mp zc32 z.1)])]
      | rw [show cDv w sg d &&& bMask w = mSz w sg d from by (rw [← hsz, if_neg (fun z => absurd ((lg_cmp_ge _ _).mp zc38) (Int64.not_le.mpr z.2))])]
      | rw [show -(cDv w sg d) &&& bMask w = mSz w sg d from by (rw [← hsz, if_pos ⟨bI_ne0.mp zc32, Int64.not_le.mp (fun z => zc38 ((lg_cmp_ge _ _).mpr z))⟩])]
      refine g_putF (fs' := [_, _, _, _, _, _]) dX9_init_55 flX9_38 fp7_3 rfl rfl (by first | assumption | exact su_self _ _ _ | (simp only [su_ne _ _ ne]; assumption)) rfl rfl (Nat.le_of_ble_eq_true rfl) rfl fLX9_38 ?_
      refine g_aload_n (i := 0) dX9_init_58 rfl rfl ?_
      refine g_aload_n (i := 0) dX9_init_59 rfl rfl ?_
      refine g_getf dX9_init_60 flX9_38 (by first | assumption | exact su_self _ _ _ | (simp only [su_ne _ _ ne]; assumption)) rfl ?_
      refine g_aload_n (i := 0) dX9_init_63 rfl rfl ?_
      refine g_getf dX9_init_64 flX9_38 (by first | assumption | exact su_self _ _ _ | (simp only [su_ne _ _ ne]; assumption)) rfl ?_
      refine g_lneg dX9_init_67 ?_
      refine g_land dX9_init_68 ?_
      refine g_lconst (v := 1) dX9_init_69 (by decide) ?_
      refine g_lsub dX9_init_70 ?_
      refine g_callSi (My := mJ13_bitCount_95d88) [_] dX9_init_71 lkX9_41 mvJ13_bitCount_95d88 rfl (c_bitCount _) (by decide) (by decide) (by decide) rfl (Nat.le_of_ble_eq_true rfl) (fun zr71 σ zh71 => ?_)
      obtain ⟨ze71, zf71⟩ := zh71
      rw [ze71, zf71, hbc]
      refine g_putF (fs' := [_, _, _, _, _, _]) dX9_init_74 flX9_47 fp7_4 rfl rfl (by first | assumption | exact su_self _ _ _ | (simp only [su_ne _ _ ne]; assumption)) rfl rfl (Nat.le_of_ble_eq_true rfl) rfl fLX9_47 ?_
      refine g_aload_n (i := 0) dX9_init_77 rfl rfl ?_
      refine g_aload_n (i := 0) dX9_init_78 rfl rfl ?_
      refine g_getf dX9_init_79 flX9_38 (by first | assumption | exact su_self _ _ _ | (simp only [su_ne _ _ ne]; assumption)) rfl ?_
      refine g_aload_n (i := 0) dX9_init_82 rfl rfl ?_
      refine g_getf dX9_init_83 flX9_47 (by first | assumption | exact su_self _ _ _ | (simp only [su_ne _ _ ne]; assumption)) rfl ?_
      refine g_lushr dX9_init_86 ?_
      refine g_putF (fs' := [_, _, _, _, _, _]) dX9_init_87 flX9_50 fp7_5 rfl rfl (by first | assumption | exact su_self _ _ _ | (simp only [su_ne _ _ ne]; assumption)) rfl rfl (Nat.le_of_ble_eq_true rfl) rfl fLX9_50 ?_
      refine g_vret dX9_init_90 rfl ?_
      exact ⟨rfl, by simp only [su_su]⟩
end CWinit
