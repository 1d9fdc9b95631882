/-! the class's Magic is the reference's find -/
def MI (N : Nat) (D : Int64) (j h : Nat) (q r : Int64) : Prop := j ≤ N ∧ h ≤ 1 ∧ uN q < 2 ^ N ∧ h * 2 ^ N + uN q = 2 ^ (N + j) / uN D ∧ uN r = 2 ^ (N + j) % uN D ∧ ((j = 0 ∧ h = 0) ∨ (1 ≤ j ∧ 2 ^ (j - 1) < uN D))
theorem MI.h0 {N : Nat} {D : Int64} {j h : Nat} {q r : Int64} (hm : MI N D j h q r) (hj : 2 ^ j < uN D) : h = 0 := by
  obtain ⟨m1, m2, m3, m4, m5, m6⟩ := hm
  have hD : 0 < uN D := Nat.lt_of_le_of_lt (Nat.zero_le _) hj
  have hlt : 2 ^ (N + j) / uN D < 2 ^ N := by
    rw [Nat.div_lt_iff_lt_mul hD, Nat.pow_add]
    exact Nat.mul_lt_mul_of_pos_left hj (Nat.two_pow_pos N)
  rcases (show h = 0 ∨ h = 1 by omega) with z | z
  · exact z
  · rw [z, Nat.one_mul] at m4
    omega
theorem MI.step {N : Nat} (hN : N = 8 ∨ N = 16 ∨ N = 32 ∨ N = 64) {D : Int64} {j h : Nat} {q r : Int64} (hm : MI N D j h q r) (hDN : uN D < 2 ^ N) (hj : 2 ^ j < uN D) (hjN : j < N) :
    (bLt r (D - r) → MI N D (j + 1) (uN q / 2 ^ (N - 1)) (mLow (gShl q 1) (nI N) ||| 0) (2 * r)) ∧ (¬ bLt r (D - r) → MI N D (j + 1) (uN q / 2 ^ (N - 1)) (mLow (gShl q 1) (nI N) ||| 1) (r - (D - r))) := by
  have hh0 := hm.h0 hj
  obtain ⟨m1, m2, m3, m4, m5, m6⟩ := hm
  subst hh0
  rw [Nat.zero_mul, Nat.zero_add] at m4
  have hD : 0 < uN D := Nat.lt_of_le_of_lt (Nat.zero_le _) hj
  have hDl := uN_lt D
  have hrl : uN r < uN D := by rw [m5]; exact Nat.mod_lt _ hD
  have hgap : uN (D - r) = uN D - uN r := by rw [uN_sub]; omega
  have hdm := Nat.div_add_mod (2 ^ (N + j)) (uN D)
  rw [← m4, ← m5] at hdm
  have hp : 2 ^ (N + (j + 1)) = 2 * 2 ^ (N + j) := by rw [← Nat.add_assoc, Nat.pow_succ]; omega
  have hNN : 2 ^ N = 2 * 2 ^ (N - 1) := by rcases hN with rfl | rfl | rfl | rfl <;> decide
  have hq2 : uN (mLow (gShl q 1) (nI N)) = (2 * uN q) % 2 ^ N := by
    rw [uN_mLow _ hN, show uN (gShl q 1) = (2 * uN q) % 18446744073709551616 from uN_shl q]
    have hd : 2 ^ N ∣ 18446744073709551616 := by rw [← pw64]; exact Nat.pow_dvd_pow 2 (by omega)
    rw [Nat.mod_mod_of_dvd _ hd]
  have hdiv : uN q / 2 ^ (N - 1) = 2 * uN q / 2 ^ N := by rw [hNN, Nat.mul_div_mul_left _ _ (by decide)]
  have hle1 : uN q / 2 ^ (N - 1) ≤ 1 := by
    have : uN q / 2 ^ (N - 1) < 2 := by
      rw [Nat.div_lt_iff_lt_mul (Nat.two_pow_pos _)]
      omega
    omega
  have hsplit := Nat.div_add_mod (2 * uN q) (2 ^ N)
  rw [← hdiv, Nat.mul_comm] at hsplit
  have hmod2 : (2 * uN q) % 2 ^ N % 2 = 0 := by
    rw [hNN, Nat.mul_mod_mul_left]
    omega
  have hml : (2 * uN q) % 2 ^ N < 2 ^ N := Nat.mod_lt _ (Nat.two_pow_pos N)
  have ho0 : uN (mLow (gShl q 1) (nI N) ||| 0) = (2 * uN q) % 2 ^ N := by
    rw [uN_or', hq2, show uN 0 = 0 from by decide, Nat.or_zero]
  have ho1 : uN (mLow (gShl q 1) (nI N) ||| 1) = (2 * uN q) % 2 ^ N + 1 := by
    rw [uN_or', hq2, show uN 1 = 1 from by decide]
    generalize (2 * uN q) % 2 ^ N = X at *
    have e : X = 2 ^ 1 * (X / 2) := by omega
    rw [e, ← Nat.two_pow_add_eq_or_of_lt (show (1 : Nat) < 2 ^ 1 by decide)]
  refine ⟨fun hb => ?_, fun hb => ?_⟩
  · rw [uN_bLt, hgap] at hb
    have hr2 : uN (2 * r) = 2 * uN r := by
      rw [uN_mul, show uN 2 = 2 from by decide]
      exact Nat.mod_eq_of_lt (by omega)
    have hnew : 2 ^ (N + (j + 1)) = uN D * (2 * uN q) + 2 * uN r := by
      rw [hp, ← hdm, Nat.mul_add, Nat.mul_left_comm]
    refine ⟨by omega, hle1, by rw [ho0]; exact hml, ?_, ?_, Or.inr ⟨by omega, by rw [Nat.add_sub_cancel]; exact hj⟩⟩
    · rw [ho0, hsplit, hnew, Nat.mul_add_div hD, Nat.div_eq_of_lt (show 2 * uN r < uN D by omega), Nat.add_zero]
    · rw [hr2, hnew, Nat.mul_add_mod, Nat.mod_eq_of_lt (by omega)]
  · rw [uN_bLt, hgap] at hb
    have hr2 : uN (r - (D - r)) = 2 * uN r - uN D := by
      rw [uN_sub, hgap]
      omega
    have hnew : 2 ^ (N + (j + 1)) = uN D * (2 * uN q + 1) + (2 * uN r - uN D) := by
      rw [hp, ← hdm, Nat.mul_add, Nat.mul_left_comm, Nat.mul_add, Nat.mul_one]
      omega
    refine ⟨by omega, hle1, by rw [ho1]; omega, ?_, ?_, Or.inr ⟨by omega, by rw [Nat.add_sub_cancel]; exact hj⟩⟩
    · rw [ho1, ← Nat.add_assoc, hsplit, hnew, Nat.mul_add_div hD, Nat.div_eq_of_lt (show 2 * uN r - uN D < uN D by omega), Nat.add_zero]
    · rw [hr2, hnew, Nat.mul_add_mod, Nat.mod_eq_of_lt (by omega)]
theorem MI.fin {N : Nat} (hN : N = 8 ∨ N = 16 ∨ N = 32 ∨ N = 64) {D : Int64} {j h : Nat} {q r : Int64} (hm : MI N D j h q r) (h1 : h = 1) : ¬ mLow (q + 1) (nI N) = 0 := by
  intro hz
  obtain ⟨m1, m2, m3, m4, m5, m6⟩ := hm
  subst h1
  obtain ⟨j1, jD⟩ : 1 ≤ j ∧ 2 ^ (j - 1) < uN D := by
    rcases m6 with z | z
    · exact absurd z.2 (by decide)
    · exact z
  have hq1 : uN q + 1 = 2 ^ N := by
    have e : uN (mLow (q + 1) (nI N)) = (uN q + 1) % 2 ^ N := by
      rw [uN_mLow _ hN, uN_add, show uN 1 = 1 from by decide]
      have hd : 2 ^ N ∣ 18446744073709551616 := by rw [← pw64]; exact Nat.pow_dvd_pow 2 (by omega)
      rw [Nat.mod_mod_of_dvd _ hd]
    rw [hz, show uN 0 = 0 from by decide] at e
    rcases Nat.lt_or_ge (uN q + 1) (2 ^ N) with z | z
    · rw [Nat.mod_eq_of_lt z] at e
      omega
    · omega
  have hQ : 2 ^ (N + j) / uN D = 2 * 2 ^ N - 1 := by omega
  have hmul : uN D * (2 * 2 ^ N - 1) ≤ 2 ^ (N + j) := by
    rw [← hQ]
    exact Nat.mul_div_le _ _
  have hD1 : (2 ^ (j - 1) + 1) * (2 * 2 ^ N - 1) ≤ uN D * (2 * 2 ^ N - 1) := Nat.mul_le_mul_right _ jD
  have hpj : 2 ^ (N + j) = 2 ^ (j - 1) * (2 * 2 ^ N) := by
    rw [show N + j = (j - 1) + (N + 1) by omega, Nat.pow_add, Nat.pow_succ, Nat.mul_comm (2 ^ N) 2]
  have hjN : 2 ^ (j - 1) ≤ 2 ^ N := Nat.pow_le_pow_right (by decide) (by omega)
  have hPN : 256 ≤ 2 ^ N := by rcases hN with rfl | rfl | rfl | rfl <;> decide
  have e2 : (2 ^ (j - 1) + 1) * (2 * 2 ^ N - 1) = 2 ^ (j - 1) * (2 * 2 ^ N) - 2 ^ (j - 1) + (2 * 2 ^ N - 1) := by
    rw [Nat.add_mul, Nat.one_mul, Nat.mul_sub, Nat.mul_one]
  have hge : 2 ^ (j - 1) ≤ 2 ^ (j - 1) * (2 * 2 ^ N) := Nat.le_mul_of_pos_right _ (by omega)
  rw [e2] at hD1
  rw [hpj] at hmul
  generalize 2 ^ (j - 1) * (2 * 2 ^ N) = X at *
  omega
theorem fBit (q : Int64) {N : Nat} (hN : N = 8 ∨ N = 16 ∨ N = 32 ∨ N = 64) (hq : uN q < 2 ^ N) : (gUshr q (nI N - 1) &&& 1).toInt32 = nI (uN q / 2 ^ (N - 1)) ∧ bI (¬ gUshr q (nI N - 1) = 0) = nI (uN q / 2 ^ (N - 1)) := by
  have h1 : nI N - 1 = nI (N - 1) := by rcases hN with rfl | rfl | rfl | rfl <;> decide
  have hNN : 2 ^ N = 2 * 2 ^ (N - 1) := by rcases hN with rfl | rfl | rfl | rfl <;> decide
  have hlt : uN q / 2 ^ (N - 1) < 2 := by
    rw [Nat.div_lt_iff_lt_mul (Nat.two_pow_pos _)]
    omega
  rw [h1]
  have e := uN_gUshr q (s := N - 1) (by omega)
  generalize uN q / 2 ^ (N - 1) = t at *
  have hg : gUshr q (nI (N - 1)) = lN t := by rw [← lN_uN (gUshr q (nI (N - 1))), e]
  rw [hg]
  rcases (show t = 0 ∨ t = 1 by omega) with rfl | rfl
  · exact ⟨by decide, bI_f (fun z => z (by decide))⟩
  · exact ⟨by decide, bI_t (by decide)⟩
theorem dbl (r : Int64) : 2 * r = r + r := by
  grind
/-- the start of the search for S -/
theorem mg_start {N : Nat} (hN : N = 8 ∨ N = 16 ∨ N = 32 ∨ N = 64) {D : Int64} (hD : 0 < uN D) (hDN : uN D < 2 ^ N) (hnd : 2 ^ N % uN D ≠ 0) : bQuo (bMask (nI N)) D = (if nI N = 64 then mQuo (-D) D + 1 else mQuo (gShl 1 (nI N)) D) ∧ bMask (nI N) - bQuo (bMask (nI N)) D * D + 1 = (if nI N = 64 then mRem (-D) D else mRem (gShl 1 (nI N)) D) ∧ MI N D 0 0 (bQuo (bMask (nI N)) D) (bMask (nI N) - bQuo (bMask (nI N)) D * D + 1) := by
  have hm : uN (bMask (nI N)) = 2 ^ N - 1 := by rcases hN with rfl | rfl | rfl | rfl <;> decide
  have hP := Nat.two_pow_pos N
  have hdm := Nat.div_add_mod (2 ^ N) (uN D)
  have hml := Nat.mod_lt (2 ^ N) hD
  have hq : (2 ^ N - 1) / uN D = 2 ^ N / uN D := by
    rw [Nat.div_eq_iff hD, Nat.mul_comm]
    generalize uN D * (2 ^ N / uN D) = X at *
    omega
  have hqN : uN (bQuo (bMask (nI N)) D) = 2 ^ N / uN D := by rw [bQuo_N _ _ hD, hm, hq]
  have hqle : 2 ^ N / uN D * uN D ≤ 2 ^ N := Nat.div_mul_le_self _ _
  have hDl := uN_lt D
  have h64 : 2 ^ N ≤ 18446744073709551616 := by rw [← pw64]; exact Nat.pow_le_pow_right (by decide) (by omega)
  have hmulN : uN (bQuo (bMask (nI N)) D * D) = 2 ^ N / uN D * uN D := by
    rw [uN_mul, hqN]
    refine Nat.mod_eq_of_lt ?_
    rw [Nat.mul_comm]
    generalize uN D * (2 ^ N / uN D) = X at *
    omega
  have hrN : uN (bMask (nI N) - bQuo (bMask (nI N)) D * D + 1) = 2 ^ N % uN D := by
    rw [uN_add, uN_sub, hmulN, hm, show uN 1 = 1 from by decide, Nat.mul_comm]
    generalize uN D * (2 ^ N / uN D) = X at *
    omega
  have hqlt : 2 ^ N / uN D < 2 ^ N := by
    refine Nat.div_lt_self hP ?_
    rcases Nat.lt_or_ge 1 (uN D) with z | z
    · exact z
    · have e : uN D = 1 := by omega
      rw [e, Nat.mod_one] at hnd
      exact absurd rfl hnd
  refine ⟨?_, ?_, ⟨Nat.zero_le _, by omega, by rw [hqN]; exact hqlt, by rw [hqN, Nat.zero_mul, Nat.zero_add, Nat.add_zero], by rw [hrN, Nat.add_zero], Or.inl ⟨rfl, rfl⟩⟩⟩
  · apply uN_inj
    rw [hqN]
    by_cases hn : N = 64
    · subst hn
      rw [if_pos (by decide), uN_add, mQuo_N _ _ hD, uN_neg, show uN 1 = 1 from by decide]
      have e : (18446744073709551616 - uN D) % 18446744073709551616 = 18446744073709551616 - uN D := Nat.mod_eq_of_lt (by omega)
      rw [e, pw64]
      have e2 : (18446744073709551616 - uN D) / uN D + 1 = 18446744073709551616 / uN D := by
        rw [← Nat.add_div_right _ hD, Nat.sub_add_cancel (Nat.le_of_lt hDl)]
      rw [e2]
      rw [pw64] at hqlt
      exact (Nat.mod_eq_of_lt hqlt).symm
    · rw [if_neg (by rcases hN with rfl | rfl | rfl | rfl <;> first | decide | exact absurd rfl hn), mQuo_N _ _ hD, uN_gShl 1 (by omega), show uN 1 = 1 from by decide, Nat.one_mul, Nat.mod_eq_of_lt]
      rw [← pw64]
      exact Nat.pow_lt_pow_right (by decide) (by omega)
  · apply uN_inj
    rw [hrN]
    by_cases hn : N = 64
    · subst hn
      rw [if_pos (by decide), mRem_N _ _ hD, uN_neg]
      have e : (18446744073709551616 - uN D) % 18446744073709551616 = 18446744073709551616 - uN D := Nat.mod_eq_of_lt (by omega)
      rw [e, pw64]
      exact Nat.mod_eq_sub_mod (Nat.le_of_lt hDl)
    · rw [if_neg (by rcases hN with rfl | rfl | rfl | rfl <;> first | decide | exact absurd rfl hn), mRem_N _ _ hD, uN_gShl 1 (by omega), show uN 1 = 1 from by decide, Nat.one_mul, Nat.mod_eq_of_lt (a := 2 ^ N) (b := 18446744073709551616)]
      rw [← pw64]
      exact Nat.pow_lt_pow_right (by decide) (by omega)
section CMagic
variable {l : Launch} {τ : gH}
theorem c_X7_isAbovePower (n : Int64) (p : Int32) : Ct l mX7_isAbovePower 2 0 0 [.long n, .int p] τ (pI fun r σ' => r = bI (p < 64 ∧ bLt (gShl 1 p) n) ∧ σ' = τ) := by
  refine Ct_of moX7_isAbovePower [some (.long n), none, some (.int p)] rfl (Nat.le_of_ble_eq_true rfl) ?_
  refine g_iload_n (i := 2) dX7_isAbovePower_0 rfl rfl ?_
  refine g_bipush (v := 64) dX7_isAbovePower_1 (by decide) ?_
  refine g_icmp_ge (tgt := 20) dX7_isAbovePower_3 (by decide) (fun zc3 => ?_) (fun zc3 => ?_)
  · refine g_iconst (v := 0) dX7_isAbovePower_20 (by decide) ?_
    refine g_zret dX7_isAbovePower_21 rfl (rfl) ?_
    refine ⟨_, rfl, ?_, rfl⟩
    first
    | (refine Eq.symm (bI_f ?_); intro z; exact absurd zc3 (Int32.not_le.mpr z.1))
    | (refine Eq.symm (bI_t ?_); exact ⟨Int32.not_le.mp zc3, bI_ne0.mp zc13⟩)
    | (refine Eq.symm (bI_f ?_); intro z; exact bI_eq0.mp zc13 z.2)
  · refine g_lconst (v := 1) dX7_isAbovePower_6 (by decide) ?_
    refine g_iload_n (i := 2) dX7_isAbovePower_7 rfl rfl ?_
    refine g_lshl dX7_isAbovePower_8 ?_
    refine g_lload_n (i := 0) dX7_isAbovePower_9 rfl rfl ?_
    refine g_callSi (My := mX2_below) [_, _] dX7_isAbovePower_10 lkX7_23 mvX2_below rfl (c_X2_below _ _) (by decide) (by decide) (by decide) rfl (Nat.le_of_ble_eq_true rfl) (fun zr10 σ zh10 => ?_)
    obtain ⟨ze10, zf10⟩ := zh10
    rw [ze10, zf10]
    refine g_if_eq (tgt := 20) dX7_isAbovePower_13 (by decide) (fun zc13 => ?_) (fun zc13 => ?_)
    · refine g_iconst (v := 0) dX7_isAbovePower_20 (by decide) ?_
      refine g_zret dX7_isAbovePower_21 rfl (rfl) ?_
      refine ⟨_, rfl, ?_, rfl⟩
      first
      | (refine Eq.symm (bI_f ?_); intro z; exact absurd zc3 (Int32.not_le.mpr z.1))
      | (refine Eq.symm (bI_t ?_); exact ⟨Int32.not_le.mp zc3, bI_ne0.mp zc13⟩)
      | (refine Eq.symm (bI_f ?_); intro z; exact bI_eq0.mp zc13 z.2)
    · refine g_iconst (v := 1) dX7_isAbovePower_16 (by decide) ?_
      refine g_goto (tgt := 21) dX7_isAbovePower_17 (by decide) ?_
      refine g_zret dX7_isAbovePower_21 rfl (rfl) ?_
      refine ⟨_, rfl, ?_, rfl⟩
      first
      | (refine Eq.symm (bI_f ?_); intro z; exact absurd zc3 (Int32.not_le.mpr z.1))
      | (refine Eq.symm (bI_t ?_); exact ⟨Int32.not_le.mp zc3, bI_ne0.mp zc13⟩)
      | (refine Eq.symm (bI_f ?_); intro z; exact bI_eq0.mp zc13 z.2)
theorem lp_X7_init {q0 : Nat} {N : Nat} (hN : N = 8 ∨ N = 16 ∨ N = 32 ∨ N = 64) {D : Int64} (hD : 0 < uN D) (hDN : uN D < 2 ^ N) {sl : Int32} (hsl : sl = 0 ∨ sl = 1) (mk : Int64) (hmk : mk = bMask (nI N)) {post : Option Value → gH → Prop} :
    ∀ (f : Nat) (q r : Int64) (j h : Nat) (x13 : Option Value), j + f = 65 → MI N D j h q r →
    (∀ q' r' j' h' x13', (q', r', nI h', nI j') = fLp (nI N) sl D f q r (nI h) (nI j) → MI N D j' h' q' r' → G l mX7_init 3 0 0 post τ 128 [some (.ref q0), some (.int (nI N)), some (.long D), none, some (.int sl), some (.long mk), none, some (.long q'), none, some (.long r'), none, some (.int (nI h')), some (.int (nI j')), x13', none] []) →
    G l mX7_init 3 0 0 post τ 35 [some (.ref q0), some (.int (nI N)), some (.long D), none, some (.int sl), some (.long mk), none, some (.long q), none, some (.long r), none, some (.int (nI h)), some (.int (nI j)), x13, none] [] := by
  have hW : isW (nI N) := by rcases hN with rfl | rfl | rfl | rfl <;> decide
  intro f
  induction f with
  | zero =>
    intro q r j h x13 hj hm kk
    exfalso
    have := hm.1
    omega
  | succ f ih =>
    intro q r j h x13 hj hm kk
    have hjN := hm.1
    obtain ⟨sn, hsn, hsl1⟩ : ∃ sn : Nat, sl = nI sn ∧ sn ≤ 1 := by
      rcases hsl with rfl | rfl
      · exact ⟨0, rfl, by omega⟩
      · exact ⟨1, rfl, by omega⟩
    have hadd : nI j + sl = nI (j + sn) := by rw [hsn, nI_add]
    have hDl := uN_lt D
    have hrl : uN r < uN D := by rw [hm.2.2.2.2.1]; exact Nat.mod_lt _ hD
    have hgap : uN (D - r) = uN D - uN r := by rw [uN_sub]; omega
    have hsh : j + sn < 64 → uN (gShl 1 (nI (j + sn))) = 2 ^ (j + sn) := fun z => by
      rw [uN_gShl 1 z, show uN 1 = 1 from by decide, Nat.one_mul]
      exact Nat.mod_eq_of_lt (by rw [← pw64]; exact Nat.pow_lt_pow_right (by decide) z)
    have stop : (63 < nI j + sl ∨ ¬ bLt (gShl 1 (nI j + sl)) (D - r)) → G l mX7_init 3 0 0 post τ 128 [some (.ref q0), some (.int (nI N)), some (.long D), none, some (.int sl), some (.long mk), none, some (.long q), none, some (.long r), none, some (.int (nI h)), some (.int (nI j)), x13, none] [] := by
      intro z
      exact kk q r j h x13 (by rw [fLp_0 z]) hm
    have h63 : 63 < nI j + sl ↔ ¬ (nI j + sl < 64) := by
      rw [hadd, show ((63 : Int32) < nI (j + sn) ↔ 63 < j + sn) from nI_ltI (a := 63) (by decide) (by omega), show (nI (j + sn) < 64 ↔ j + sn < 64) from nI_ltI (b := 64) (by omega) (by decide)]
      omega
    have cont : (nI j + sl < 64 ∧ bLt (gShl 1 (nI j + sl)) (D - r)) → j < N → (bLt r (D - r) → ∀ bt : Int32, ((¬ gUshr q (nI N - 1) = 0 ∧ bt = 1) ∨ (gUshr q (nI N - 1) = 0 ∧ bt = 0)) → ∀ x13, G l mX7_init 3 0 0 post τ 35 [some (.ref q0), some (.int (nI N)), some (.long D), none, some (.int sl), some (.long (bMask (nI N))), none, some (.long (mLow (gShl q 1) (nI N))), none, some (.long (r + r)), none, some (.int bt), some (.int (nI (j + 1))), x13, none] []) ∧ (¬ bLt r (D - r) → ∀ bt : Int32, ((¬ gUshr q (nI N - 1) = 0 ∧ bt = 1) ∨ (gUshr q (nI N - 1) = 0 ∧ bt = 0)) → ∀ x13, G l mX7_init 3 0 0 post τ 35 [some (.ref q0), some (.int (nI N)), some (.long D), none, some (.int sl), some (.long (bMask (nI N))), none, some (.long (mLow (gShl q 1) (nI N) ||| 1)), none, some (.long (r - (D - r))), none, some (.int bt), some (.int (nI (j + 1))), x13, none] []) := by
      intro hgo hjlt
      have hlt64 : j + sn < 64 := by
        have := hgo.1
        rw [hadd, show (nI (j + sn) < 64 ↔ j + sn < 64) from nI_ltI (b := 64) (by omega) (by decide)] at this
        exact this
      have hjD : 2 ^ j < uN D := by
        have := hgo.2
        rw [hadd, uN_bLt, hsh hlt64, hgap] at this
        have h2 : 2 ^ j ≤ 2 ^ (j + sn) := Nat.pow_le_pow_right (by decide) (by omega)
        omega
      have hns : ¬ (63 < nI j + sl ∨ ¬ bLt (gShl 1 (nI j + sl)) (D - r)) := fun z => z.elim (fun y => (h63.mp y) hgo.1) (fun y => y hgo.2)
      have hst := hm.step hN hDN hjD hjlt
      have hh0 := hm.h0 hjD
      subst hh0
      obtain ⟨fb1, fb2⟩ := fBit q hN hm.2.2.1
      have hbit : (gUshr q (nI N - 1) &&& 1).toInt32 + 2 * nI 0 = nI (uN q / 2 ^ (N - 1)) := by
        rw [fb1]
        exact Int32.add_zero _
      have hbb : ∀ bt : Int32, ((¬ gUshr q (nI N - 1) = 0 ∧ bt = 1) ∨ (gUshr q (nI N - 1) = 0 ∧ bt = 0)) → bt = nI (uN q / 2 ^ (N - 1)) := by
        intro bt hbt
        rw [← fb2]
        rcases hbt with ⟨z, rfl⟩ | ⟨z, rfl⟩
        · exact (bI_t z).symm
        · exact (bI_f (fun y => y z)).symm
      have e64 : ∀ v : Int64, v ||| 0 = v := fun v => by
        apply uN_inj
        rw [uN_or', show uN 0 = 0 from by decide, Nat.or_zero]
      refine ⟨fun z bt hbt x13 => ?_, fun z bt hbt x13 => ?_⟩
      · have e := ih (mLow (gShl q 1) (nI N) ||| 0) (2 * r) (j + 1) (uN q / 2 ^ (N - 1)) x13 (by omega) (hst.1 z) (fun q' r' j' h' x13' he hm' => kk q' r' j' h' x13' (by rw [fLp_f hns z, hbit, nI_1]; exact he) hm')
        rw [e64, dbl, hmk, ← hbb bt hbt] at e
        exact e
      · have e := ih (mLow (gShl q 1) (nI N) ||| 1) (r - (D - r)) (j + 1) (uN q / 2 ^ (N - 1)) x13 (by omega) (hst.2 z) (fun q' r' j' h' x13' he hm' => kk q' r' j' h' x13' (by rw [fLp_t hns z, hbit, nI_1]; exact he) hm')
        rw [hmk, ← hbb bt hbt] at e
        exact e
    refine g_iload dX7_init_35 rfl ?_
    refine g_iload_n (i := 1) dX7_init_37 rfl rfl ?_
    refine g_icmp_ge (tgt := 128) dX7_init_38 (by decide) (fun zc38 => ?_) (fun zc38 => ?_)
    · first
      | (refine stop ?_
         have hjN2 : N ≤ j := (nI_leI (by omega) (by omega)).mp zc38
         by_cases hb : 63 < nI j + sl
         · exact Or.inl hb
         · right
           rw [h63, hadd, show (nI (j + sn) < 64 ↔ j + sn < 64) from nI_ltI (b := 64) (by omega) (by decide)] at hb
           rw [hadd, uN_bLt, hsh (by omega), hgap]
           have : 2 ^ N ≤ 2 ^ (j + sn) := Nat.pow_le_pow_right (by decide) (by omega)
           omega)
      | (refine stop ?_
         have q := bI_eq0.mp zc53
         by_cases hb : nI j + sl < 64
         · exact Or.inr (fun z => q ⟨hb, z⟩)
         · exact Or.inl (h63.mpr hb))
    · refine g_lload_n (i := 2) dX7_init_41 rfl rfl ?_
      refine g_lload dX7_init_42 rfl ?_
      refine g_lsub dX7_init_44 ?_
      refine g_iload dX7_init_45 rfl ?_
      refine g_iload dX7_init_47 rfl ?_
      refine g_iadd dX7_init_49 ?_
      refine g_callSi (My := mX7_isAbovePower) [_, _] dX7_init_50 lkX7_17 mvX7_isAbovePower rfl (c_X7_isAbovePower _ _) (by decide) (by decide) (by decide) rfl (Nat.le_of_ble_eq_true rfl) (fun zr50 σ zh50 => ?_)
      obtain ⟨ze50, zf50⟩ := zh50
      rw [ze50, zf50]
      refine g_if_eq (tgt := 128) dX7_init_53 (by decide) (fun zc53 => ?_) (fun zc53 => ?_)
      · first
        | (refine stop ?_
           have hjN2 : N ≤ j := (nI_leI (by omega) (by omega)).mp zc38
           by_cases hb : 63 < nI j + sl
           · exact Or.inl hb
           · right
             rw [h63, hadd, show (nI (j + sn) < 64 ↔ j + sn < 64) from nI_ltI (b := 64) (by omega) (by decide)] at hb
             rw [hadd, uN_bLt, hsh (by omega), hgap]
             have : 2 ^ N ≤ 2 ^ (j + sn) := Nat.pow_le_pow_right (by decide) (by omega)
             omega)
        | (refine stop ?_
           have q := bI_eq0.mp zc53
           by_cases hb : nI j + sl < 64
           · exact Or.inr (fun z => q ⟨hb, z⟩)
           · exact Or.inl (h63.mpr hb))
      · refine g_lload dX7_init_56 rfl ?_
        refine g_iload_n (i := 1) dX7_init_58 rfl rfl ?_
        refine g_iconst (v := 1) dX7_init_59 (by decide) ?_
        refine g_isub dX7_init_60 ?_
        refine g_lushr dX7_init_61 ?_
        refine g_lconst (v := 0) dX7_init_62 (by decide) ?_
        refine g_lcmp dX7_init_63 ?_
        refine g_if_eq (tgt := 71) dX7_init_64 (by decide) (fun zc64 => ?_) (fun zc64 => ?_)
        · refine g_iconst (v := 0) dX7_init_71 (by decide) ?_
          refine g_istore (ls' := [_, _, _, _, _, _, _, _, _, _, _, _, _, _, _]) dX7_init_72 (by decide) rfl rfl ?_
          refine g_lload dX7_init_74 rfl ?_
          refine g_iconst (v := 1) dX7_init_76 (by decide) ?_
          refine g_lshl dX7_init_77 ?_
          refine g_lload dX7_init_78 rfl ?_
          refine g_land dX7_init_80 ?_
          refine g_lstore (ls' := [_, _, _, _, _, _, _, _, _, _, _, _, _, _, _]) dX7_init_81 (by decide) rfl rfl ?_
          refine g_lload_n (i := 2) dX7_init_83 rfl rfl ?_
          refine g_lload dX7_init_84 rfl ?_
          refine g_lsub dX7_init_86 ?_
          refine g_lstore (ls' := [_, _, _, _, _, _, _, _, _, _, _, _, _, _, _]) dX7_init_87 (by decide) rfl rfl ?_
          refine g_lload dX7_init_89 rfl ?_
          refine g_lload dX7_init_91 rfl ?_
          refine g_callSi (My := mX2_below) [_, _] dX7_init_93 lkX7_23 mvX2_below rfl (c_X2_below _ _) (by decide) (by decide) (by decide) rfl (Nat.le_of_ble_eq_true rfl) (fun zr93 σ zh93 => ?_)
          obtain ⟨ze93, zf93⟩ := zh93
          rw [ze93, zf93]
          refine g_if_eq (tgt := 109) dX7_init_96 (by decide) (fun zc96 => ?_) (fun zc96 => ?_)
          · refine g_lload dX7_init_109 rfl ?_
            refine g_lload dX7_init_111 rfl ?_
            refine g_lsub dX7_init_113 ?_
            refine g_lstore (ls' := [_, _, _, _, _, _, _, _, _, _, _, _, _, _, _]) dX7_init_114 (by decide) rfl rfl ?_
            refine g_lload dX7_init_116 rfl ?_
            refine g_lconst (v := 1) dX7_init_118 (by decide) ?_
            refine g_lor dX7_init_119 ?_
            refine g_lstore (ls' := [_, _, _, _, _, _, _, _, _, _, _, _, _, _, _]) dX7_init_120 (by decide) rfl rfl ?_
            refine g_iinc (v := _ + 1) (ls' := [_, _, _, _, _, _, _, _, _, _, _, _, _, _, _]) dX7_init_122 rfl rfl (by decide) rfl rfl ?_
            refine g_goto (tgt := 35) dX7_init_125 (by decide) ?_
            have hjlt : j < N := Nat.not_le.mp (fun z => zc38 (nI_le z (by omega)))
            obtain ⟨kt, kf⟩ := cont (bI_ne0.mp zc53) hjlt
            rw [hmk, low_eq _ hW, nI_1]
            first
            | exact kt (bI_ne0.mp zc96) 1 (Or.inl ⟨fun z => zc64 ((lg_cmp_eq _ _).mpr z), rfl⟩) _
            | exact kt (bI_ne0.mp zc96) 0 (Or.inr ⟨(lg_cmp_eq _ _).mp zc64, rfl⟩) _
            | exact kf (bI_eq0.mp zc96) 1 (Or.inl ⟨fun z => zc64 ((lg_cmp_eq _ _).mpr z), rfl⟩) _
            | exact kf (bI_eq0.mp zc96) 0 (Or.inr ⟨(lg_cmp_eq _ _).mp zc64, rfl⟩) _
          · refine g_lload dX7_init_99 rfl ?_
            refine g_lload dX7_init_101 rfl ?_
            refine g_ladd dX7_init_103 ?_
            refine g_lstore (ls' := [_, _, _, _, _, _, _, _, _, _, _, _, _, _, _]) dX7_init_104 (by decide) rfl rfl ?_
            refine g_goto (tgt := 122) dX7_init_106 (by decide) ?_
            refine g_iinc (v := _ + 1) (ls' := [_, _, _, _, _, _, _, _, _, _, _, _, _, _, _]) dX7_init_122 rfl rfl (by decide) rfl rfl ?_
            refine g_goto (tgt := 35) dX7_init_125 (by decide) ?_
            have hjlt : j < N := Nat.not_le.mp (fun z => zc38 (nI_le z (by omega)))
            obtain ⟨kt, kf⟩ := cont (bI_ne0.mp zc53) hjlt
            rw [hmk, low_eq _ hW, nI_1]
            first
            | exact kt (bI_ne0.mp zc96) 1 (Or.inl ⟨fun z => zc64 ((lg_cmp_eq _ _).mpr z), rfl⟩) _
            | exact kt (bI_ne0.mp zc96) 0 (Or.inr ⟨(lg_cmp_eq _ _).mp zc64, rfl⟩) _
            | exact kf (bI_eq0.mp zc96) 1 (Or.inl ⟨fun z => zc64 ((lg_cmp_eq _ _).mpr z), rfl⟩) _
            | exact kf (bI_eq0.mp zc96) 0 (Or.inr ⟨(lg_cmp_eq _ _).mp zc64, rfl⟩) _
        · refine g_iconst (v := 1) dX7_init_67 (by decide) ?_
          refine g_goto (tgt := 72) dX7_init_68 (by decide) ?_
          refine g_istore (ls' := [_, _, _, _, _, _, _, _, _, _, _, _, _, _, _]) dX7_init_72 (by decide) rfl rfl ?_
          refine g_lload dX7_init_74 rfl ?_
          refine g_iconst (v := 1) dX7_init_76 (by decide) ?_
          refine g_lshl dX7_init_77 ?_
          refine g_lload dX7_init_78 rfl ?_
          refine g_land dX7_init_80 ?_
          refine g_lstore (ls' := [_, _, _, _, _, _, _, _, _, _, _, _, _, _, _]) dX7_init_81 (by decide) rfl rfl ?_
          refine g_lload_n (i := 2) dX7_init_83 rfl rfl ?_
          refine g_lload dX7_init_84 rfl ?_
          refine g_lsub dX7_init_86 ?_
          refine g_lstore (ls' := [_, _, _, _, _, _, _, _, _, _, _, _, _, _, _]) dX7_init_87 (by decide) rfl rfl ?_
          refine g_lload dX7_init_89 rfl ?_
          refine g_lload dX7_init_91 rfl ?_
          refine g_callSi (My := mX2_below) [_, _] dX7_init_93 lkX7_23 mvX2_below rfl (c_X2_below _ _) (by decide) (by decide) (by decide) rfl (Nat.le_of_ble_eq_true rfl) (fun zr93 σ zh93 => ?_)
          obtain ⟨ze93, zf93⟩ := zh93
          rw [ze93, zf93]
          refine g_if_eq (tgt := 109) dX7_init_96 (by decide) (fun zc96 => ?_) (fun zc96 => ?_)
          · refine g_lload dX7_init_109 rfl ?_
            refine g_lload dX7_init_111 rfl ?_
            refine g_lsub dX7_init_113 ?_
            refine g_lstore (ls' := [_, _, _, _, _, _, _, _, _, _, _, _, _, _, _]) dX7_init_114 (by decide) rfl rfl ?_
            refine g_lload dX7_init_116 rfl ?_
            refine g_lconst (v := 1) dX7_init_118 (by decide) ?_
            refine g_lor dX7_init_119 ?_
            refine g_lstore (ls' := [_, _, _, _, _, _, _, _, _, _, _, _, _, _, _]) dX7_init_120 (by decide) rfl rfl ?_
            refine g_iinc (v := _ + 1) (ls' := [_, _, _, _, _, _, _, _, _, _, _, _, _, _, _]) dX7_init_122 rfl rfl (by decide) rfl rfl ?_
            refine g_goto (tgt := 35) dX7_init_125 (by decide) ?_
            have hjlt : j < N := Nat.not_le.mp (fun z => zc38 (nI_le z (by omega)))
            obtain ⟨kt, kf⟩ := cont (bI_ne0.mp zc53) hjlt
            rw [hmk, low_eq _ hW, nI_1]
            first
            | exact kt (bI_ne0.mp zc96) 1 (Or.inl ⟨fun z => zc64 ((lg_cmp_eq _ _).mpr z), rfl⟩) _
            | exact kt (bI_ne0.mp zc96) 0 (Or.inr ⟨(lg_cmp_eq _ _).mp zc64, rfl⟩) _
            | exact kf (bI_eq0.mp zc96) 1 (Or.inl ⟨fun z => zc64 ((lg_cmp_eq _ _).mpr z), rfl⟩) _
            | exact kf (bI_eq0.mp zc96) 0 (Or.inr ⟨(lg_cmp_eq _ _).mp zc64, rfl⟩) _
          · refine g_lload dX7_init_99 rfl ?_
            refine g_lload dX7_init_101 rfl ?_
            refine g_ladd dX7_init_103 ?_
            refine g_lstore (ls' := [_, _, _, _, _, _, _, _, _, _, _, _, _, _, _]) dX7_init_104 (by decide) rfl rfl ?_
            refine g_goto (tgt := 122) dX7_init_106 (by decide) ?_
            refine g_iinc (v := _ + 1) (ls' := [_, _, _, _, _, _, _, _, _, _, _, _, _, _, _]) dX7_init_122 rfl rfl (by decide) rfl rfl ?_
            refine g_goto (tgt := 35) dX7_init_125 (by decide) ?_
            have hjlt : j < N := Nat.not_le.mp (fun z => zc38 (nI_le z (by omega)))
            obtain ⟨kt, kf⟩ := cont (bI_ne0.mp zc53) hjlt
            rw [hmk, low_eq _ hW, nI_1]
            first
            | exact kt (bI_ne0.mp zc96) 1 (Or.inl ⟨fun z => zc64 ((lg_cmp_eq _ _).mpr z), rfl⟩) _
            | exact kt (bI_ne0.mp zc96) 0 (Or.inr ⟨(lg_cmp_eq _ _).mp zc64, rfl⟩) _
            | exact kf (bI_eq0.mp zc96) 1 (Or.inl ⟨fun z => zc64 ((lg_cmp_eq _ _).mpr z), rfl⟩) _
            | exact kf (bI_eq0.mp zc96) 0 (Or.inr ⟨(lg_cmp_eq _ _).mp zc64, rfl⟩) _
def mgO (N : Nat) (sl : Int32) (D : Int64) : gC := gO 5 [.int (fMoved (nI N) sl D), .long (fFactor (nI N) sl D), .int (fOver (nI N) sl D), .long (fMiss (nI N) sl D)]
theorem t128_X7 {q0 : Nat} (h0 : τ q0 = some (gO 5 [.int 0, .long 0, .int 0, .long 0])) {N : Nat} (hN : N = 8 ∨ N = 16 ∨ N = 32 ∨ N = 64) {D q' r' : Int64} {sl : Int32} {j' h' : Nat} (hh : h' ≤ 1) (eM : fMoved (nI N) sl D = nI j') (eF : fFactor (nI N) sl D = mLow (q' + 1) (nI N)) (eS : fMiss (nI N) sl D = D - r') (eO : fOver (nI N) sl D = bI (h' = 1 ∨ mLow (q' + 1) (nI N) = 0)) (hj : j' ≤ N) (x13 : Option Value) : G l mX7_init 3 0 0 (pV fun σ' => σ' = su τ q0 (mgO N sl D) ∧ (fOver (nI N) sl D = 0 ∨ fOver (nI N) sl D = 1) ∧ ∃ j, j ≤ N ∧ fMoved (nI N) sl D = nI j) τ 128 [some (.ref q0), some (.int (nI N)), some (.long D), none, some (.int sl), some (.long (bMask (nI N))), none, some (.long q'), none, some (.long r'), none, some (.int (nI h')), some (.int (nI j')), x13, none] [] := by
  have hW : isW (nI N) := by rcases hN with rfl | rfl | rfl | rfl <;> decide
  have e1 : nI h' = 0 ↔ ¬ h' = 1 := by
    rw [show (nI h' = 0 ↔ h' = 0) from nI_eq (b := 0) (by omega) (by decide)]
    omega
  have o01 : fOver (nI N) sl D = 0 ∨ fOver (nI N) sl D = 1 := by
    rw [eO]
    by_cases z : h' = 1 ∨ mLow (q' + 1) (nI N) = 0
    · exact Or.inr (bI_t z)
    · exact Or.inl (bI_f z)
  refine g_mono (post' := pV fun σ' => σ' = su τ q0 (gO 5 [.int (nI j'), .long (mLow (q' + 1) (nI N)), .int (bI (h' = 1 ∨ mLow (q' + 1) (nI N) = 0)), .long (D - r')])) ?_ ?_
  · rintro v σ ⟨rfl, rfl⟩
    refine ⟨rfl, ?_, o01, j', hj, eM⟩
    unfold mgO
    rw [eM, eF, eS, eO]
  refine g_aload_n (i := 0) dX7_init_128 rfl rfl ?_
  refine g_iload dX7_init_129 rfl ?_
  refine g_putF (fs' := [_, _, _, _]) dX7_init_131 flX7_27 fp5_0 rfl rfl (by first | assumption | exact su_self _ _ _) rfl rfl (Nat.le_of_ble_eq_true rfl) rfl fLX7_27 ?_
  refine g_aload_n (i := 0) dX7_init_134 rfl rfl ?_
  refine g_lload dX7_init_135 rfl ?_
  refine g_lconst (v := 1) dX7_init_137 (by decide) ?_
  refine g_ladd dX7_init_138 ?_
  refine g_lload dX7_init_139 rfl ?_
  refine g_land dX7_init_141 ?_
  rw [low_eq _ hW]
  refine g_putF (fs' := [_, _, _, _]) dX7_init_142 flX7_31 fp5_1 rfl rfl (by first | assumption | exact su_self _ _ _) rfl rfl (Nat.le_of_ble_eq_true rfl) rfl fLX7_31 ?_
  refine g_aload_n (i := 0) dX7_init_145 rfl rfl ?_
  refine g_iload dX7_init_146 rfl ?_
  refine g_if_ne (tgt := 160) dX7_init_148 (by decide) (fun zc148 => ?_) (fun zc148 => ?_)
  · refine g_iconst (v := 1) dX7_init_160 (by decide) ?_
    refine g_goto (tgt := 165) dX7_init_161 (by decide) ?_
    refine g_putF (fs' := [_, _, _, _]) dX7_init_165 flX7_35 fp5_2 rfl rfl (by first | assumption | exact su_self _ _ _) rfl rfl (Nat.le_of_ble_eq_true rfl) rfl fLX7_35 ?_
    refine g_aload_n (i := 0) dX7_init_168 rfl rfl ?_
    refine g_lload_n (i := 2) dX7_init_169 rfl rfl ?_
    refine g_lload dX7_init_170 rfl ?_
    refine g_lsub dX7_init_172 ?_
    refine g_putF (fs' := [_, _, _, _]) dX7_init_173 flX7_39 fp5_3 rfl rfl (by first | assumption | exact su_self _ _ _) rfl rfl (Nat.le_of_ble_eq_true rfl) rfl fLX7_39 ?_
    refine g_vret dX7_init_176 rfl ?_
    refine ⟨rfl, ?_⟩
    simp only [su_su]
    first
    | (rw [bI_t (Or.inl (Classical.byContradiction (fun z => zc148 (e1.mpr z))))])
    | (rw [bI_t (Or.inr ((lg_cmp_eq _ _).mp zc157))])
    | (rw [bI_f (fun z => z.elim (e1.mp zc148) (fun y => zc157 ((lg_cmp_eq _ _).mpr y)))])
  · refine g_aload_n (i := 0) dX7_init_151 rfl rfl ?_
    refine g_getf dX7_init_152 flX7_31 (by first | assumption | exact su_self _ _ _) rfl ?_
    refine g_lconst (v := 0) dX7_init_155 (by decide) ?_
    refine g_lcmp dX7_init_156 ?_
    refine g_if_ne (tgt := 164) dX7_init_157 (by decide) (fun zc157 => ?_) (fun zc157 => ?_)
    · refine g_iconst (v := 0) dX7_init_164 (by decide) ?_
      refine g_putF (fs' := [_, _, _, _]) dX7_init_165 flX7_35 fp5_2 rfl rfl (by first | assumption | exact su_self _ _ _) rfl rfl (Nat.le_of_ble_eq_true rfl) rfl fLX7_35 ?_
      refine g_aload_n (i := 0) dX7_init_168 rfl rfl ?_
      refine g_lload_n (i := 2) dX7_init_169 rfl rfl ?_
      refine g_lload dX7_init_170 rfl ?_
      refine g_lsub dX7_init_172 ?_
      refine g_putF (fs' := [_, _, _, _]) dX7_init_173 flX7_39 fp5_3 rfl rfl (by first | assumption | exact su_self _ _ _) rfl rfl (Nat.le_of_ble_eq_true rfl) rfl fLX7_39 ?_
      refine g_vret dX7_init_176 rfl ?_
      refine ⟨rfl, ?_⟩
      simp only [su_su]
      first
      | (rw [bI_t (Or.inl (Classical.byContradiction (fun z => zc148 (e1.mpr z))))])
      | (rw [bI_t (Or.inr ((lg_cmp_eq _ _).mp zc157))])
      | (rw [bI_f (fun z => z.elim (e1.mp zc148) (fun y => zc157 ((lg_cmp_eq _ _).mpr y)))])
    · refine g_iconst (v := 1) dX7_init_160 (by decide) ?_
      refine g_goto (tgt := 165) dX7_init_161 (by decide) ?_
      refine g_putF (fs' := [_, _, _, _]) dX7_init_165 flX7_35 fp5_2 rfl rfl (by first | assumption | exact su_self _ _ _) rfl rfl (Nat.le_of_ble_eq_true rfl) rfl fLX7_35 ?_
      refine g_aload_n (i := 0) dX7_init_168 rfl rfl ?_
      refine g_lload_n (i := 2) dX7_init_169 rfl rfl ?_
      refine g_lload dX7_init_170 rfl ?_
      refine g_lsub dX7_init_172 ?_
      refine g_putF (fs' := [_, _, _, _]) dX7_init_173 flX7_39 fp5_3 rfl rfl (by first | assumption | exact su_self _ _ _) rfl rfl (Nat.le_of_ble_eq_true rfl) rfl fLX7_39 ?_
      refine g_vret dX7_init_176 rfl ?_
      refine ⟨rfl, ?_⟩
      simp only [su_su]
      first
      | (rw [bI_t (Or.inl (Classical.byContradiction (fun z => zc148 (e1.mpr z))))])
      | (rw [bI_t (Or.inr ((lg_cmp_eq _ _).mp zc157))])
      | (rw [bI_f (fun z => z.elim (e1.mp zc148) (fun y => zc157 ((lg_cmp_eq _ _).mpr y)))])
theorem c_X7_init {q0 : Nat} (h0 : τ q0 = some (gO 5 [.int 0, .long 0, .int 0, .long 0])) {N : Nat} (hN : N = 8 ∨ N = 16 ∨ N = 32 ∨ N = 64) {D : Int64} (hD : 0 < uN D) (hDN : uN D < 2 ^ N) (hnd : 2 ^ N % uN D ≠ 0) {sl : Int32} (hsl : sl = 0 ∨ sl = 1) : Ct l mX7_init 3 0 0 [.ref q0, .int (nI N), .long D, .int sl] τ (pV fun σ' => σ' = su τ q0 (mgO N sl D) ∧ (fOver (nI N) sl D = 0 ∨ fOver (nI N) sl D = 1) ∧ ∃ j, j ≤ N ∧ fMoved (nI N) sl D = nI j) := by
  have hW : isW (nI N) := by rcases hN with rfl | rfl | rfl | rfl <;> decide
  obtain ⟨s1, s2, s3⟩ := mg_start hN hD hDN hnd
  refine Ct_of moX7_init [some (.ref q0), some (.int (nI N)), some (.long D), none, some (.int sl), none, none, none, none, none, none, none, none, none, none] rfl (Nat.le_of_ble_eq_true rfl) ?_
  refine g_aload_n (i := 0) dX7_init_0 rfl rfl ?_
  refine g_objInit dX7_init_1 lkX7_1 oi_inst oi_code (by decide) (Nat.le_of_ble_eq_true rfl) ?_
  refine g_iload_n (i := 1) dX7_init_4 rfl rfl ?_
  refine g_callSl (My := mX2_mask) [_] dX7_init_5 lkX7_7 mvX2_mask rfl (c_X2_mask _) (by decide) (by decide) (by decide) rfl (Nat.le_of_ble_eq_true rfl) (fun zr5 σ zh5 => ?_)
  obtain ⟨ze5, zf5⟩ := zh5
  rw [ze5, zf5]
  refine g_lstore (ls' := [_, _, _, _, _, _, _, _, _, _, _, _, _, _, _]) dX7_init_8 (by decide) rfl rfl ?_
  refine g_lload dX7_init_10 rfl ?_
  refine g_lload_n (i := 2) dX7_init_12 rfl rfl ?_
  refine g_callSl (My := mX2_quotient) [_, _] dX7_init_13 lkX7_13 mvX2_quotient rfl (c_X2_quotient _ _) (by decide) (by decide) (by decide) rfl (Nat.le_of_ble_eq_true rfl) (fun zr13 σ zh13 => ?_)
  obtain ⟨ze13, zf13⟩ := zh13
  rw [ze13, zf13]
  refine g_lstore (ls' := [_, _, _, _, _, _, _, _, _, _, _, _, _, _, _]) dX7_init_16 (by decide) rfl rfl ?_
  refine g_lload dX7_init_18 rfl ?_
  refine g_lload dX7_init_20 rfl ?_
  refine g_lload_n (i := 2) dX7_init_22 rfl rfl ?_
  refine g_lmul dX7_init_23 ?_
  refine g_lsub dX7_init_24 ?_
  refine g_lconst (v := 1) dX7_init_25 (by decide) ?_
  refine g_ladd dX7_init_26 ?_
  refine g_lstore (ls' := [_, _, _, _, _, _, _, _, _, _, _, _, _, _, _]) dX7_init_27 (by decide) rfl rfl ?_
  refine g_iconst (v := 0) dX7_init_29 (by decide) ?_
  refine g_istore (ls' := [_, _, _, _, _, _, _, _, _, _, _, _, _, _, _]) dX7_init_30 (by decide) rfl rfl ?_
  refine g_iconst (v := 0) dX7_init_32 (by decide) ?_
  refine g_istore (ls' := [_, _, _, _, _, _, _, _, _, _, _, _, _, _, _]) dX7_init_33 (by decide) rfl rfl ?_
  refine lp_X7_init hN hD hDN hsl _ rfl 65 _ _ 0 0 none (by omega) s3 (fun q' r' j' h' x13' he hm' => ?_)
  have hF : fRes (nI N) sl D = (q', r', nI h', nI j') := by
    unfold fRes
    rw [← s1, ← s2]
    exact he.symm
  have eM : fMoved (nI N) sl D = nI j' := by unfold fMoved; rw [hF]
  have eF : fFactor (nI N) sl D = mLow (q' + 1) (nI N) := by unfold fFactor; rw [hF]
  have eS : fMiss (nI N) sl D = D - r' := by unfold fMiss; rw [hF]
  have eO : fOver (nI N) sl D = bI (h' = 1 ∨ mLow (q' + 1) (nI N) = 0) := by
    unfold fOver
    rw [hF, eF]
    show nI h' + _ = _
    rcases (show h' = 0 ∨ h' = 1 by have := hm'.2.1; omega) with z | z
    · subst z
      by_cases hz : mLow (q' + 1) (nI N) = 0
      · rw [if_pos hz, bI_t (Or.inr hz)]
        decide
      · rw [if_neg hz, bI_f (fun y => y.elim (by decide) hz)]
        decide
    · have hz := hm'.fin hN z
      rw [if_neg hz, bI_t (Or.inl z), z]
      decide
  exact t128_X7 h0 hN hm'.2.1 eM eF eS eO hm'.1 _
end CMagic
