/-! the family uN of the kit's laws/BITS.to-paste, and what follows from it -/
def uN (x : Int64) : Nat := x.toUInt64.toNat
theorem uN_lt (x : Int64) : uN x < 18446744073709551616 := x.toUInt64.toNat_lt
theorem uN_inj {x y : Int64} (h : uN x = uN y) : x = y := congrArg UInt64.toInt64 (UInt64.toNat_inj.mp h)
theorem uN_add (x y : Int64) : uN (x + y) = (uN x + uN y) % 18446744073709551616 := by
  show (x.toUInt64 + y.toUInt64).toNat = _
  exact UInt64.toNat_add _ _
theorem uN_mul (x y : Int64) : uN (x * y) = (uN x * uN y) % 18446744073709551616 := by
  show (x.toUInt64 * y.toUInt64).toNat = _
  exact UInt64.toNat_mul _ _
theorem uN_shl (x : Int64) : uN (x <<< ((1 : Int32).toInt64 &&& 63)) = (2 * uN x) % 18446744073709551616 := by
  have h : (((1 : Int32).toInt64 &&& 63).toBitVec.smod 64).toNat = 1 := by decide
  show (x.toBitVec <<< (((1 : Int32).toInt64 &&& 63).toBitVec.smod 64).toNat).toNat = _
  rw [h, BitVec.toNat_shiftLeft, Nat.shiftLeft_eq, Nat.mul_comm]
  rfl
theorem uN_shr (x : Int64) (s : UInt64) : uN (x.toUInt64 >>> s).toInt64 = uN x / 2 ^ (s.toNat % 64) := by
  show (x.toUInt64 >>> s).toNat = _
  rw [UInt64.toNat_shiftRight, Nat.shiftRight_eq_div_pow]
  rfl
theorem uN_s32 (x : Int64) : uN (x.toUInt64 >>> ((32 : Int32).toInt64.toUInt64 &&& Int64.toUInt64 63)).toInt64 = uN x / 4294967296 := by
  have h : ((32 : Int32).toInt64.toUInt64 &&& Int64.toUInt64 63).toNat % 64 = 32 := by decide
  rw [uN_shr, h]
theorem uN_s63 (x : Int64) : uN (x.toUInt64 >>> ((63 : Int32).toInt64.toUInt64 &&& Int64.toUInt64 63)).toInt64 = uN x / 9223372036854775808 := by
  have h : ((63 : Int32).toInt64.toUInt64 &&& Int64.toUInt64 63).toNat % 64 = 63 := by decide
  rw [uN_shr, h]
theorem uN_lo (x : Int64) : uN (x &&& 4294967295) = uN x % 4294967296 := by
  show (x.toUInt64 &&& Int64.toUInt64 4294967295).toNat = _
  rw [UInt64.toNat_and]
  exact Nat.and_two_pow_sub_one_eq_mod _ 32
theorem uN_bit (x : Int64) : (x &&& 1) = 0 ↔ uN x % 2 = 0 := by
  have h : uN (x &&& 1) = uN x % 2 := by
    show (x.toUInt64 &&& Int64.toUInt64 1).toNat = _
    rw [UInt64.toNat_and]
    exact Nat.and_two_pow_sub_one_eq_mod _ 1
  rw [← h]
  exact ⟨fun z => by rw [z]; rfl, fun z => uN_inj (z.trans rfl)⟩
theorem uN_or {x y : Int64} (hy : uN y < 2) : uN ((x <<< ((1 : Int32).toInt64 &&& 63)) ||| y) = (2 * uN x) % 18446744073709551616 + uN y := by
  have h1 : uN ((x <<< ((1 : Int32).toInt64 &&& 63)) ||| y) = uN (x <<< ((1 : Int32).toInt64 &&& 63)) ||| uN y := UInt64.toNat_or _ _
  have h2 : (2 * uN x) % 18446744073709551616 = 2 ^ 1 * (uN x % 9223372036854775808) := by omega
  rw [h1, uN_shl, h2]
  exact (Nat.two_pow_add_eq_or_of_lt (i := 1) hy _).symm
theorem nat_xor {a : Nat} (h : a < 18446744073709551616) : a ^^^ 2 ^ 63 = (a + 9223372036854775808) % 18446744073709551616 := by
  have h1 : (a ^^^ 2 ^ 63) % 2 ^ 63 = a % 2 ^ 63 := by rw [Nat.xor_mod_two_pow, Nat.mod_self, Nat.xor_zero]
  have h2 : (a ^^^ 2 ^ 63) / 2 ^ 63 = (a / 2 ^ 63) ^^^ 1 := by rw [Nat.xor_div_two_pow, Nat.div_self (Nat.two_pow_pos 63)]
  have h3 : a / 2 ^ 63 = 0 ∨ a / 2 ^ 63 = 1 := by omega
  generalize a ^^^ 2 ^ 63 = t at h1 h2
  rcases h3 with h3 | h3
  · rw [h3] at h2
    have h2 : t / 2 ^ 63 = 1 := h2
    omega
  · rw [h3] at h2
    have h2 : t / 2 ^ 63 = 0 := h2
    omega
theorem uN_xor (x : Int64) : uN (x ^^^ (-9223372036854775808)) = (uN x + 9223372036854775808) % 18446744073709551616 := by
  rw [← nat_xor (uN_lt x)]
  exact UInt64.toNat_xor _ _
theorem uN_int (x : Int64) : x.toInt = if 2 * uN x < 18446744073709551616 then (uN x : Int) else (uN x : Int) - 18446744073709551616 := BitVec.toInt_eq_toNat_cond _
theorem uN_le (x y : Int64) : (x ^^^ (-9223372036854775808)) ≤ (y ^^^ (-9223372036854775808)) ↔ uN x ≤ uN y := by
  have hx := uN_lt x
  have hy := uN_lt y
  rw [Int64.le_iff_toInt_le, uN_int, uN_int, uN_xor, uN_xor]
  omega
theorem uN_sk (x : Int64) {k : Nat} (hk : k < 64) : uN (x.toUInt64 >>> ((nI k).toInt64.toUInt64 &&& Int64.toUInt64 63)).toInt64 = uN x / 2 ^ k := by
  have h : ((nI k).toInt64.toUInt64 &&& Int64.toUInt64 63).toNat % 64 = k := by
    rw [nI_l (by omega), UInt64.toNat_and]
    have e : (lN k).toUInt64.toNat = k % 2 ^ 64 := rfl
    have e2 : (Int64.toUInt64 63).toNat = 2 ^ 6 - 1 := by decide
    rw [e, e2, Nat.and_two_pow_sub_one_eq_mod]
    omega
  rw [uN_shr, h]
/-! widths: w = nI N -/
theorem uN_gShl (x : Int64) {s : Nat} (h : s < 64) : uN (gShl x (nI s)) = uN x * 2 ^ s % 18446744073709551616 := by
  have h1 : ∀ s, s < 64 → (((nI s).toInt64 &&& 63).toBitVec.smod 64).toNat = s := by decide +kernel
  show (x.toBitVec <<< (((nI s).toInt64 &&& 63).toBitVec.smod 64).toNat).toNat = _
  rw [h1 s h, BitVec.toNat_shiftLeft, Nat.shiftLeft_eq]
  rfl
theorem uN_gUshr (x : Int64) {s : Nat} (h : s < 64) : uN (gUshr x (nI s)) = uN x / 2 ^ s := uN_sk x h
theorem gShr_int (x : Int64) {s : Nat} (h : s < 64) : (gShr x (nI s)).toInt = x.toInt / 2 ^ s := by
  have h1 : ∀ s, s < 64 → (((nI s).toInt64 &&& 63).toBitVec.smod 64).toNat = s := by decide +kernel
  show (x.toBitVec.sshiftRight (((nI s).toInt64 &&& 63).toBitVec.smod 64).toNat).toInt = _
  rw [h1 s h, BitVec.toInt_sshiftRight, Int.shiftRight_eq_div_pow]
  rfl
theorem uN_and (x y : Int64) : uN (x &&& y) = uN x &&& uN y := UInt64.toNat_and _ _
theorem uN_or' (x y : Int64) : uN (x ||| y) = uN x ||| uN y := UInt64.toNat_or _ _
theorem uN_sub (x y : Int64) : uN (x - y) = (18446744073709551616 - uN y + uN x) % 18446744073709551616 := UInt64.toNat_sub _ _
theorem uN_neg (x : Int64) : uN (-x) = (18446744073709551616 - uN x) % 18446744073709551616 := by
  have h : -x = 0 - x := by simp
  rw [h, uN_sub]
  rfl
theorem uN_bLt (x y : Int64) : bLt x y ↔ uN x < uN y := by
  have h := uN_le y x
  rw [bLt, ← Int64.not_le, h, Nat.not_le]
theorem isW_N {w : Int32} (h : isW w) : ∃ N : Nat, (N = 8 ∨ N = 16 ∨ N = 32 ∨ N = 64) ∧ w = nI N := by
  rcases h with rfl | rfl | rfl | rfl
  · exact ⟨8, Or.inl rfl, rfl⟩
  · exact ⟨16, Or.inr (Or.inl rfl), rfl⟩
  · exact ⟨32, Or.inr (Or.inr (Or.inl rfl)), rfl⟩
  · exact ⟨64, Or.inr (Or.inr (Or.inr rfl)), rfl⟩
theorem uN_mLow (v : Int64) {N : Nat} (h : N = 8 ∨ N = 16 ∨ N = 32 ∨ N = 64) : uN (mLow v (nI N)) = uN v % 2 ^ N := by
  have hv := uN_lt v
  rcases h with rfl | rfl | rfl | rfl
  · rw [mLow, if_neg (by decide), uN_and]
    exact Nat.and_two_pow_sub_one_eq_mod _ 8
  · rw [mLow, if_neg (by decide), uN_and]
    exact Nat.and_two_pow_sub_one_eq_mod _ 16
  · rw [mLow, if_neg (by decide), uN_and]
    exact Nat.and_two_pow_sub_one_eq_mod _ 32
  · rw [mLow, if_pos (by decide)]
    exact (Nat.mod_eq_of_lt hv).symm
theorem low_eq (v : Int64) {w : Int32} (h : isW w) : v &&& bMask w = mLow v w := by
  obtain ⟨N, hN, rfl⟩ := isW_N h
  apply uN_inj
  rw [uN_mLow v hN, uN_and]
  rcases hN with rfl | rfl | rfl | rfl
  · exact Nat.and_two_pow_sub_one_eq_mod _ 8
  · exact Nat.and_two_pow_sub_one_eq_mod _ 16
  · exact Nat.and_two_pow_sub_one_eq_mod _ 32
  · exact Nat.and_two_pow_sub_one_eq_mod _ 64
theorem mLow_lt (v : Int64) {N : Nat} (h : N = 8 ∨ N = 16 ∨ N = 32 ∨ N = 64) : uN (mLow v (nI N)) < 2 ^ N := by
  rw [uN_mLow v h]
  exact Nat.mod_lt _ (Nat.two_pow_pos N)
theorem mLow_id {v : Int64} {N : Nat} (h : N = 8 ∨ N = 16 ∨ N = 32 ∨ N = 64) (hv : uN v < 2 ^ N) : mLow v (nI N) = v := by
  apply uN_inj
  rw [uN_mLow v h, Nat.mod_eq_of_lt hv]
theorem gShl0 (x : Int64) : gShl x (64 - nI 64) = x := by
  apply uN_inj
  rw [show (64 : Int32) - nI 64 = nI 0 from by decide, uN_gShl x (by decide)]
  have := uN_lt x
  omega
theorem gShr0 (x : Int64) : gShr x (64 - nI 64) = x := by
  apply Int64.toInt_inj.mp
  rw [show (64 : Int32) - nI 64 = nI 0 from by decide, gShr_int x (by decide)]
  simp
theorem sig_eq (v : Int64) {w : Int32} (h : isW w) : bSig w v = mSig v w := by
  rcases h with rfl | rfl | rfl | rfl
  · rw [mSig, if_neg (by decide)]; rfl
  · rw [mSig, if_neg (by decide)]; rfl
  · rw [mSig, if_neg (by decide)]; rfl
  · rw [mSig, if_pos (by decide)]
    show gShr (gShl v (64 - nI 64)) (64 - nI 64) = v
    rw [gShl0, gShr0]
/-- a signed number that is 0 has its lowest bits 0 -/
theorem mSig_0 {v : Int64} {w : Int32} (h : isW w) (h0 : mSig v w = 0) : mLow v w = 0 := by
  obtain ⟨N, hN, rfl⟩ := isW_N h
  apply uN_inj
  rw [uN_mLow v hN]
  show uN v % 2 ^ N = 0
  by_cases h64 : N = 64
  · subst h64
    rw [mSig, if_pos (by decide)] at h0
    rw [h0]
    rfl
  · rw [mSig, if_neg (by rcases hN with rfl | rfl | rfl | rfl <;> first | decide | exact absurd rfl h64)] at h0
    have hs : (64 : Int32) - nI N = nI (64 - N) := by rcases hN with rfl | rfl | rfl | rfl <;> decide
    rw [hs] at h0
    have hlt : 64 - N < 64 := by omega
    have e1 := gShr_int (gShl v (nI (64 - N))) hlt
    rw [h0] at e1
    have e2 := uN_gShl v hlt
    have e3 := uN_int (gShl v (nI (64 - N)))
    have e4 : (0 : Int64).toInt = 0 := by decide
    rw [e4] at e1
    have hv := uN_lt v
    have hg := uN_lt (gShl v (nI (64 - N)))
    rcases hN with rfl | rfl | rfl | rfl
    · simp only [Nat.reduceSub] at *
      omega
    · simp only [Nat.reduceSub] at *
      omega
    · simp only [Nat.reduceSub] at *
      omega
    · exact absurd rfl h64
theorem mLow_mLow (v : Int64) {w : Int32} (h : isW w) : mLow (mLow v w) w = mLow v w := by
  obtain ⟨N, hN, rfl⟩ := isW_N h
  exact mLow_id hN (mLow_lt v hN)
