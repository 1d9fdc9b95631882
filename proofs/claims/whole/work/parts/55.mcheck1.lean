/-! the reference: check(), whole numbers as eight halves -/
theorem lz_add {a b : Int64} (h1 : -9223372036854775808 ≤ a.toInt + b.toInt) (h2 : a.toInt + b.toInt < 9223372036854775808) : (a + b).toInt = a.toInt + b.toInt := by
  rw [Int64.toInt_add]
  exact Int.bmod_eq_of_le_mul_two (by omega) (by omega)
theorem lz_sub {a b : Int64} (h1 : -9223372036854775808 ≤ a.toInt - b.toInt) (h2 : a.toInt - b.toInt < 9223372036854775808) : (a - b).toInt = a.toInt - b.toInt := by
  rw [Int64.toInt_sub]
  exact Int.bmod_eq_of_le_mul_two (by omega) (by omega)
theorem lz_uN {a : Int64} (h : uN a < 9223372036854775808) : a.toInt = (uN a : Int) := by
  rw [uN_int, if_pos (by omega)]
def hv (h : Nat → Int64) : Int := (h 0).toInt + 4294967296 * (h 1).toInt + 18446744073709551616 * (h 2).toInt + 79228162514264337593543950336 * (h 3).toInt + 340282366920938463463374607431768211456 * (h 4).toInt + 1461501637330902918203684832716283019655932542976 * (h 5).toInt + 6277101735386680763835789423207666416102355444464034512896 * (h 6).toInt + 26959946667150639794667015087019630673637144422540572481103610249216 * (h 7).toInt
def pw (k : Nat) : Int := match k with
  | 0 => 1
  | 1 => 4294967296
  | 2 => 18446744073709551616
  | 3 => 79228162514264337593543950336
  | 4 => 340282366920938463463374607431768211456
  | 5 => 1461501637330902918203684832716283019655932542976
  | 6 => 6277101735386680763835789423207666416102355444464034512896
  | 7 => 26959946667150639794667015087019630673637144422540572481103610249216
  | _ => 0
def nrm (h : Nat → Int64) (n : Nat) : Prop := ∀ j, j < n → 0 ≤ (h j).toInt ∧ (h j).toInt < 4294967296
theorem lt8 {k : Nat} (h : k < 8) : k = 0 ∨ k = 1 ∨ k = 2 ∨ k = 3 ∨ k = 4 ∨ k = 5 ∨ k = 6 ∨ k = 7 := by omega
theorem hv_upd (h : Nat → Int64) {k : Nat} (hk : k < 8) (x : Int64) : hv (vp_updL h k x) = hv h + pw k * (x.toInt - (h k).toInt) := by
  rcases lt8 hk with rfl | rfl | rfl | rfl | rfl | rfl | rfl | rfl
  · show x.toInt + 4294967296 * (h 1).toInt + 18446744073709551616 * (h 2).toInt + 79228162514264337593543950336 * (h 3).toInt + 340282366920938463463374607431768211456 * (h 4).toInt + 1461501637330902918203684832716283019655932542976 * (h 5).toInt + 6277101735386680763835789423207666416102355444464034512896 * (h 6).toInt + 26959946667150639794667015087019630673637144422540572481103610249216 * (h 7).toInt = hv h + 1 * (x.toInt - (h 0).toInt)
    unfold hv
    omega
  · show (h 0).toInt + 4294967296 * x.toInt + 18446744073709551616 * (h 2).toInt + 79228162514264337593543950336 * (h 3).toInt + 340282366920938463463374607431768211456 * (h 4).toInt + 1461501637330902918203684832716283019655932542976 * (h 5).toInt + 6277101735386680763835789423207666416102355444464034512896 * (h 6).toInt + 26959946667150639794667015087019630673637144422540572481103610249216 * (h 7).toInt = hv h + 4294967296 * (x.toInt - (h 1).toInt)
    unfold hv
    omega
  · show (h 0).toInt + 4294967296 * (h 1).toInt + 18446744073709551616 * x.toInt + 79228162514264337593543950336 * (h 3).toInt + 340282366920938463463374607431768211456 * (h 4).toInt + 1461501637330902918203684832716283019655932542976 * (h 5).toInt + 6277101735386680763835789423207666416102355444464034512896 * (h 6).toInt + 26959946667150639794667015087019630673637144422540572481103610249216 * (h 7).toInt = hv h + 18446744073709551616 * (x.toInt - (h 2).toInt)
    unfold hv
    omega
  · show (h 0).toInt + 4294967296 * (h 1).toInt + 18446744073709551616 * (h 2).toInt + 79228162514264337593543950336 * x.toInt + 340282366920938463463374607431768211456 * (h 4).toInt + 1461501637330902918203684832716283019655932542976 * (h 5).toInt + 6277101735386680763835789423207666416102355444464034512896 * (h 6).toInt + 26959946667150639794667015087019630673637144422540572481103610249216 * (h 7).toInt = hv h + 79228162514264337593543950336 * (x.toInt - (h 3).toInt)
    unfold hv
    omega
  · show (h 0).toInt + 4294967296 * (h 1).toInt + 18446744073709551616 * (h 2).toInt + 79228162514264337593543950336 * (h 3).toInt + 340282366920938463463374607431768211456 * x.toInt + 1461501637330902918203684832716283019655932542976 * (h 5).toInt + 6277101735386680763835789423207666416102355444464034512896 * (h 6).toInt + 26959946667150639794667015087019630673637144422540572481103610249216 * (h 7).toInt = hv h + 340282366920938463463374607431768211456 * (x.toInt - (h 4).toInt)
    unfold hv
    omega
  · show (h 0).toInt + 4294967296 * (h 1).toInt + 18446744073709551616 * (h 2).toInt + 79228162514264337593543950336 * (h 3).toInt + 340282366920938463463374607431768211456 * (h 4).toInt + 1461501637330902918203684832716283019655932542976 * x.toInt + 6277101735386680763835789423207666416102355444464034512896 * (h 6).toInt + 26959946667150639794667015087019630673637144422540572481103610249216 * (h 7).toInt = hv h + 1461501637330902918203684832716283019655932542976 * (x.toInt - (h 5).toInt)
    unfold hv
    omega
  · show (h 0).toInt + 4294967296 * (h 1).toInt + 18446744073709551616 * (h 2).toInt + 79228162514264337593543950336 * (h 3).toInt + 340282366920938463463374607431768211456 * (h 4).toInt + 1461501637330902918203684832716283019655932542976 * (h 5).toInt + 6277101735386680763835789423207666416102355444464034512896 * x.toInt + 26959946667150639794667015087019630673637144422540572481103610249216 * (h 7).toInt = hv h + 6277101735386680763835789423207666416102355444464034512896 * (x.toInt - (h 6).toInt)
    unfold hv
    omega
  · show (h 0).toInt + 4294967296 * (h 1).toInt + 18446744073709551616 * (h 2).toInt + 79228162514264337593543950336 * (h 3).toInt + 340282366920938463463374607431768211456 * (h 4).toInt + 1461501637330902918203684832716283019655932542976 * (h 5).toInt + 6277101735386680763835789423207666416102355444464034512896 * (h 6).toInt + 26959946667150639794667015087019630673637144422540572481103610249216 * x.toInt = hv h + 26959946667150639794667015087019630673637144422540572481103610249216 * (x.toInt - (h 7).toInt)
    unfold hv
    omega
theorem pw_s {k : Nat} (hk : k < 7) : pw (k + 1) = 4294967296 * pw k := by
  rcases lt8 (Nat.lt_trans hk (by decide)) with rfl | rfl | rfl | rfl | rfl | rfl | rfl | rfl <;> first | rfl | omega
theorem pw_2 {k : Nat} (hk : k < 8) : pw k = ((2 ^ (32 * k) : Nat) : Int) := by
  rcases lt8 hk with rfl | rfl | rfl | rfl | rfl | rfl | rfl | rfl <;> rfl
theorem pw_p {p : Nat} (hp : p < 256) : pw (p / 32) * ((2 ^ (p % 32) : Nat) : Int) = ((2 ^ p : Nat) : Int) := by
  rw [pw_2 (by omega), ← Int.natCast_mul, ← Nat.pow_add, show 32 * (p / 32) + p % 32 = p by omega]
theorem hv_7 {h : Nat → Int64} (hn : nrm h 7) : ∃ L : Int, 0 ≤ L ∧ L < 26959946667150639794667015087019630673637144422540572481103610249216 ∧ hv h = L + 26959946667150639794667015087019630673637144422540572481103610249216 * (h 7).toInt := by
  have n0 := hn 0 (by decide)
  have n1 := hn 1 (by decide)
  have n2 := hn 2 (by decide)
  have n3 := hn 3 (by decide)
  have n4 := hn 4 (by decide)
  have n5 := hn 5 (by decide)
  have n6 := hn 6 (by decide)
  refine ⟨(h 0).toInt + 4294967296 * (h 1).toInt + 18446744073709551616 * (h 2).toInt + 79228162514264337593543950336 * (h 3).toInt + 340282366920938463463374607431768211456 * (h 4).toInt + 1461501637330902918203684832716283019655932542976 * (h 5).toInt + 6277101735386680763835789423207666416102355444464034512896 * (h 6).toInt, by omega, by omega, rfl⟩
theorem hv_bit {h : Nat → Int64} (hn : nrm h 7) (h7 : (h 7).toInt = 0) {X : Nat} (hX : hv h = (X : Int)) {q r : Nat} (hq : q < 7) (hr : r < 32) : Nat.testBit X (32 * q + r) = Nat.testBit (uN (h q)) r := by
  have n0 := hn 0 (by decide)
  have u0 := uN_int (h 0)
  have l0 := uN_lt (h 0)
  have v0 : uN (h 0) < 2 ^ 32 := by
    have e : (2 : Nat) ^ 32 = 4294967296 := by decide
    rw [e]
    split at u0 <;> omega
  have i0 : (h 0).toInt = (uN (h 0) : Int) := by
    have e : (2 : Nat) ^ 32 = 4294967296 := by decide
    rw [e] at v0
    rw [u0, if_pos (by omega)]
  have n1 := hn 1 (by decide)
  have u1 := uN_int (h 1)
  have l1 := uN_lt (h 1)
  have v1 : uN (h 1) < 2 ^ 32 := by
    have e : (2 : Nat) ^ 32 = 4294967296 := by decide
    rw [e]
    split at u1 <;> omega
  have i1 : (h 1).toInt = (uN (h 1) : Int) := by
    have e : (2 : Nat) ^ 32 = 4294967296 := by decide
    rw [e] at v1
    rw [u1, if_pos (by omega)]
  have n2 := hn 2 (by decide)
  have u2 := uN_int (h 2)
  have l2 := uN_lt (h 2)
  have v2 : uN (h 2) < 2 ^ 32 := by
    have e : (2 : Nat) ^ 32 = 4294967296 := by decide
    rw [e]
    split at u2 <;> omega
  have i2 : (h 2).toInt = (uN (h 2) : Int) := by
    have e : (2 : Nat) ^ 32 = 4294967296 := by decide
    rw [e] at v2
    rw [u2, if_pos (by omega)]
  have n3 := hn 3 (by decide)
  have u3 := uN_int (h 3)
  have l3 := uN_lt (h 3)
  have v3 : uN (h 3) < 2 ^ 32 := by
    have e : (2 : Nat) ^ 32 = 4294967296 := by decide
    rw [e]
    split at u3 <;> omega
  have i3 : (h 3).toInt = (uN (h 3) : Int) := by
    have e : (2 : Nat) ^ 32 = 4294967296 := by decide
    rw [e] at v3
    rw [u3, if_pos (by omega)]
  have n4 := hn 4 (by decide)
  have u4 := uN_int (h 4)
  have l4 := uN_lt (h 4)
  have v4 : uN (h 4) < 2 ^ 32 := by
    have e : (2 : Nat) ^ 32 = 4294967296 := by decide
    rw [e]
    split at u4 <;> omega
  have i4 : (h 4).toInt = (uN (h 4) : Int) := by
    have e : (2 : Nat) ^ 32 = 4294967296 := by decide
    rw [e] at v4
    rw [u4, if_pos (by omega)]
  have n5 := hn 5 (by decide)
  have u5 := uN_int (h 5)
  have l5 := uN_lt (h 5)
  have v5 : uN (h 5) < 2 ^ 32 := by
    have e : (2 : Nat) ^ 32 = 4294967296 := by decide
    rw [e]
    split at u5 <;> omega
  have i5 : (h 5).toInt = (uN (h 5) : Int) := by
    have e : (2 : Nat) ^ 32 = 4294967296 := by decide
    rw [e] at v5
    rw [u5, if_pos (by omega)]
  have n6 := hn 6 (by decide)
  have u6 := uN_int (h 6)
  have l6 := uN_lt (h 6)
  have v6 : uN (h 6) < 2 ^ 32 := by
    have e : (2 : Nat) ^ 32 = 4294967296 := by decide
    rw [e]
    split at u6 <;> omega
  have i6 : (h 6).toInt = (uN (h 6) : Int) := by
    have e : (2 : Nat) ^ 32 = 4294967296 := by decide
    rw [e] at v6
    rw [u6, if_pos (by omega)]
  have eX : X = (2 ^ 32 * (2 ^ 32 * (2 ^ 32 * (2 ^ 32 * (2 ^ 32 * (2 ^ 32 * uN (h 6) + uN (h 5)) + uN (h 4)) + uN (h 3)) + uN (h 2)) + uN (h 1)) + uN (h 0)) := by
    have e : (2 : Nat) ^ 32 = 4294967296 := by decide
    unfold hv at hX
    rw [i0, i1, i2, i3, i4, i5, i6, h7] at hX
    rw [e]
    omega
  rw [eX]
  by_cases q0 : q = 0
  · subst q0
    rw [Nat.testBit_two_pow_mul_add _ v0, if_pos (by omega)]
    rw [show 32 * 0 + r = r by omega]
  by_cases q1 : q = 1
  · subst q1
    rw [Nat.testBit_two_pow_mul_add _ v0, if_neg (by omega)]
    rw [Nat.testBit_two_pow_mul_add _ v1, if_pos (by omega)]
    rw [show 32 * 1 + r - 32 = r by omega]
  by_cases q2 : q = 2
  · subst q2
    rw [Nat.testBit_two_pow_mul_add _ v0, if_neg (by omega)]
    rw [Nat.testBit_two_pow_mul_add _ v1, if_neg (by omega)]
    rw [Nat.testBit_two_pow_mul_add _ v2, if_pos (by omega)]
    rw [show 32 * 2 + r - 32 - 32 = r by omega]
  by_cases q3 : q = 3
  · subst q3
    rw [Nat.testBit_two_pow_mul_add _ v0, if_neg (by omega)]
    rw [Nat.testBit_two_pow_mul_add _ v1, if_neg (by omega)]
    rw [Nat.testBit_two_pow_mul_add _ v2, if_neg (by omega)]
    rw [Nat.testBit_two_pow_mul_add _ v3, if_pos (by omega)]
    rw [show 32 * 3 + r - 32 - 32 - 32 = r by omega]
  by_cases q4 : q = 4
  · subst q4
    rw [Nat.testBit_two_pow_mul_add _ v0, if_neg (by omega)]
    rw [Nat.testBit_two_pow_mul_add _ v1, if_neg (by omega)]
    rw [Nat.testBit_two_pow_mul_add _ v2, if_neg (by omega)]
    rw [Nat.testBit_two_pow_mul_add _ v3, if_neg (by omega)]
    rw [Nat.testBit_two_pow_mul_add _ v4, if_pos (by omega)]
    rw [show 32 * 4 + r - 32 - 32 - 32 - 32 = r by omega]
  by_cases q5 : q = 5
  · subst q5
    rw [Nat.testBit_two_pow_mul_add _ v0, if_neg (by omega)]
    rw [Nat.testBit_two_pow_mul_add _ v1, if_neg (by omega)]
    rw [Nat.testBit_two_pow_mul_add _ v2, if_neg (by omega)]
    rw [Nat.testBit_two_pow_mul_add _ v3, if_neg (by omega)]
    rw [Nat.testBit_two_pow_mul_add _ v4, if_neg (by omega)]
    rw [Nat.testBit_two_pow_mul_add _ v5, if_pos (by omega)]
    rw [show 32 * 5 + r - 32 - 32 - 32 - 32 - 32 = r by omega]
  have q6 : q = 6 := by omega
  subst q6
  rw [Nat.testBit_two_pow_mul_add _ v0, if_neg (by omega)]
  rw [Nat.testBit_two_pow_mul_add _ v1, if_neg (by omega)]
  rw [Nat.testBit_two_pow_mul_add _ v2, if_neg (by omega)]
  rw [Nat.testBit_two_pow_mul_add _ v3, if_neg (by omega)]
  rw [Nat.testBit_two_pow_mul_add _ v4, if_neg (by omega)]
  rw [Nat.testBit_two_pow_mul_add _ v5, if_neg (by omega)]
  rw [show 32 * 6 + r - 32 - 32 - 32 - 32 - 32 - 32 = r by omega]
theorem bHi64_N (a b : Int64) : uN (bHi64 a b) = uN a * uN b / 18446744073709551616 := by
  have ha := uN_lt a
  have hb := uN_lt b
  unfold bHi64
  have s32 : ∀ x : Int64, uN (gUshr x 32) = uN x / 4294967296 := fun x => uN_gUshr x (s := 32) (by decide)
  obtain ⟨a1, ea1⟩ : ∃ q, q = uN a / 4294967296 := ⟨_, rfl⟩
  obtain ⟨a0, ea0⟩ : ∃ q, q = uN a % 4294967296 := ⟨_, rfl⟩
  obtain ⟨b1, eb1⟩ : ∃ q, q = uN b / 4294967296 := ⟨_, rfl⟩
  obtain ⟨b0, eb0⟩ : ∃ q, q = uN b % 4294967296 := ⟨_, rfl⟩
  simp only [uN_add, uN_mul, s32, uN_lo]
  rw [← ea1, ← ea0, ← eb1, ← eb0]
  have hP : uN a * uN b = 18446744073709551616 * (a1 * b1) + 4294967296 * (a1 * b0) + 4294967296 * (a0 * b1) + a0 * b0 := by
    have e1 : uN a = 4294967296 * a1 + a0 := by omega
    have e2 : uN b = 4294967296 * b1 + b0 := by omega
    rw [e1, e2]
    simp only [Nat.mul_add, Nat.add_mul]
    have t1 : 4294967296 * a1 * (4294967296 * b1) = 18446744073709551616 * (a1 * b1) := by
      rw [Nat.mul_mul_mul_comm]
    have t2 : 4294967296 * a1 * b0 = 4294967296 * (a1 * b0) := Nat.mul_assoc _ _ _
    have t3 : a0 * (4294967296 * b1) = 4294967296 * (a0 * b1) := Nat.mul_left_comm _ _ _
    rw [t1, t2, t3]
    omega
  rw [hP]
  have m : ∀ x y : Nat, x < 4294967296 → y < 4294967296 → x * y ≤ 18446744065119617025 := fun x y hx hy => Nat.mul_le_mul (show x ≤ 4294967295 by omega) (show y ≤ 4294967295 by omega)
  have m11 := m a1 b1 (by omega) (by omega)
  have m10 := m a1 b0 (by omega) (by omega)
  have m01 := m a0 b1 (by omega) (by omega)
  have m00 := m a0 b0 (by omega) (by omega)
  generalize a1 * b1 = p11 at *
  generalize a1 * b0 = p10 at *
  generalize a0 * b1 = p01 at *
  generalize a0 * b0 = p00 at *
  clear hP ea1 ea0 eb1 eb0 ha hb
  omega
theorem i64c1 : (4294967295 : Int64).toInt = 4294967295 := by decide
theorem i64c2 : (4294967296 : Int64).toInt = 4294967296 := by decide
theorem i64c3 : (1 : Int64).toInt = 1 := by decide
theorem i64c4 : (0 : Int64).toInt = 0 := by decide
theorem sh_N {r : Nat} (hr : r < 32) : (gShl 1 (nI r)).toInt = ((2 ^ r : Nat) : Int) := by
  have e : uN (gShl 1 (nI r)) = 2 ^ r := by
    rw [uN_gShl 1 (by omega), show uN 1 = 1 from by decide, Nat.one_mul]
    exact Nat.mod_eq_of_lt (Nat.lt_of_lt_of_le (Nat.pow_lt_pow_right (by decide) hr) (by decide))
  have h2 : 2 ^ r ≤ 2 ^ 31 := Nat.pow_le_pow_right (by decide) (by omega)
  rw [lz_uN (by rw [e]; omega), e]
section CMcheck1
variable {l : Launch} {o : Nat} {ad : Nat → Nat} {S : mS} {post : Option Value → gH → Prop}
theorem lp_X11_addBit {V : Int} (hV : V < 115792089237316195423570985008687907853269984665640564039457584007913129639936) (x1 : Int64) (x3 : Int32) (hp : ∀ (σ' : gH) (h : Nat → Int64), Mm σ' o ad (uJ S 26 h) → nrm h 8 → hv h = V → post none σ') : ∀ (n k : Nat) (h : Nat → Int64) (σ : gH), k + n = 7 → Mm σ o ad (uJ S 26 h) → (∀ j, j < 8 → j ≠ k → 0 ≤ (h j).toInt ∧ (h j).toInt < 4294967296) → 0 ≤ (h k).toInt → (h k).toInt < 8589934592 → hv h = V → G l mX11_addBit 1 0 0 post σ 29 [some (.ref o), some (.long x1), none, some (.int x3), some (.int (nI k))] [] := by
  intro n
  induction n with
  | zero =>
    intro k h σ hk hM hj h0 h1 hv1
    obtain rfl : k = 7 := by omega
    have hI : vp_in (nI 7) 8 := vp_in_nI (by decide) (by decide)
    have hck : (nI 7).toNatClampNeg = 7 := nI_clamp (by decide)
    refine g_aload_n (i := 0) dX11_addBit_29 rfl rfl ?_
    refine gm_get hM (k := 26) dX11_addBit_30 flX11_53 rfl ?_
    refine g_iload dX11_addBit_33 rfl ?_
    refine gm_lald hM dX11_addBit_35 rfl (hI) ?_
    refine g_tol (h 7) (by rw [hck]; rfl) ?_
    refine g_ldc2 (v := 4294967295) dX11_addBit_36 klX11_95 ?_
    refine g_lcmp dX11_addBit_39 ?_
    refine g_if_le (tgt := 73) dX11_addBit_40 (by decide) (fun zc40 => ?_) (fun zc40 => ?_)
    · refine g_vret dX11_addBit_73 rfl ?_
      have q := (lg_cmp_le _ _).mp zc40
      rw [Int64.le_iff_toInt_le, i64c1] at q
      refine hp _ h hM (fun j hjj => ?_) hv1
      by_cases e : j = 7
      · subst e; omega
      · exact hj j hjj e
    · exfalso
      have q : ¬ (h 7 ≤ 4294967295) := fun z => zc40 ((lg_cmp_le _ _).mpr z)
      rw [Int64.le_iff_toInt_le, i64c1] at q
      obtain ⟨L, g1, g2, g3⟩ := hv_7 (h := h) (fun j hjj => hj j (by omega) (by omega))
      omega
  | succ n ih =>
    intro k h σ hk hM hj h0 h1 hv1
    have hI : vp_in (nI k) 8 := vp_in_nI (by omega) (by decide)
    have hI1 : vp_in (nI (k + 1)) 8 := vp_in_nI (by omega) (by decide)
    have hck : (nI k).toNatClampNeg = k := nI_clamp (by omega)
    have hck1 : (nI (k + 1)).toNatClampNeg = k + 1 := nI_clamp (by omega)
    have hn1 := hj (k + 1) (by omega) (by omega)
    refine g_aload_n (i := 0) dX11_addBit_29 rfl rfl ?_
    refine gm_get hM (k := 26) dX11_addBit_30 flX11_53 rfl ?_
    refine g_iload dX11_addBit_33 rfl ?_
    refine gm_lald hM dX11_addBit_35 rfl (hI) ?_
    refine g_tol (h k) (by rw [hck]; rfl) ?_
    refine g_ldc2 (v := 4294967295) dX11_addBit_36 klX11_95 ?_
    refine g_lcmp dX11_addBit_39 ?_
    refine g_if_le (tgt := 73) dX11_addBit_40 (by decide) (fun zc40 => ?_) (fun zc40 => ?_)
    · refine g_vret dX11_addBit_73 rfl ?_
      have q := (lg_cmp_le _ _).mp zc40
      rw [Int64.le_iff_toInt_le, i64c1] at q
      refine hp _ h hM (fun j hjj => ?_) hv1
      by_cases e : j = k
      · subst e; omega
      · exact hj j hjj e
    · refine g_aload_n (i := 0) dX11_addBit_43 rfl rfl ?_
      refine gm_get hM (k := 26) dX11_addBit_44 flX11_53 rfl ?_
      refine g_iload dX11_addBit_47 rfl ?_
      refine g_dup2 dX11_addBit_49 rfl rfl ?_
      refine gm_lald hM dX11_addBit_50 rfl (hI) ?_
      refine g_tol (h k) (by rw [hck]; rfl) ?_
      refine g_ldc2 (v := 4294967296) dX11_addBit_51 klX11_259 ?_
      refine g_lsub dX11_addBit_54 ?_
      refine gm_last hM dX11_addBit_55 rfl (hI) (fun σ hM => ?_)
      rw [hck, uJ_uJ] at hM
      have hM : Mm σ o ad (uJ S 26 (vp_updL h k (h k - 4294967296))) := hM
      refine g_iinc (v := _ + 1) (ls' := [_, _, _, _, _]) dX11_addBit_56 rfl rfl (by decide) rfl rfl ?_
      rw [nI_1]
      refine g_aload_n (i := 0) dX11_addBit_59 rfl rfl ?_
      refine gm_get hM (k := 26) dX11_addBit_60 flX11_53 rfl ?_
      refine g_iload dX11_addBit_63 rfl ?_
      refine g_dup2 dX11_addBit_65 rfl rfl ?_
      refine gm_lald hM dX11_addBit_66 rfl (hI1) ?_
      refine g_tol (h (k + 1)) (by rw [hck1]; exact pk_uLn (by omega)) ?_
      refine g_lconst (v := 1) dX11_addBit_67 (by decide) ?_
      refine g_ladd dX11_addBit_68 ?_
      refine gm_last hM dX11_addBit_69 rfl (hI1) (fun σ hM => ?_)
      rw [hck1, uJ_uJ] at hM
      have hM : Mm σ o ad (uJ S 26 (vp_updL (vp_updL h k (h k - 4294967296)) (k + 1) (h (k + 1) + 1))) := hM
      refine g_goto (tgt := 29) dX11_addBit_70 (by decide) ?_
      have q : ¬ (h k ≤ 4294967295) := fun z => zc40 ((lg_cmp_le _ _).mpr z)
      rw [Int64.le_iff_toInt_le, i64c1] at q
      have e1 : (h k - 4294967296).toInt = (h k).toInt - 4294967296 := by rw [lz_sub (by rw [i64c2]; omega) (by rw [i64c2]; omega), i64c2]
      have e2 : (h (k + 1) + 1).toInt = (h (k + 1)).toInt + 1 := by rw [lz_add (by rw [i64c3]; omega) (by rw [i64c3]; omega), i64c3]
      refine ih (k + 1) _ σ (by omega) hM (fun j hjj hne => ?_) (by rw [pk_uLs, e2]; omega) (by rw [pk_uLs, e2]; omega) ?_
      · rw [pk_uLn hne]
        by_cases e : j = k
        · subst e; rw [pk_uLs, e1]; omega
        · rw [pk_uLn e]; exact hj j hjj e
      · rw [hv_upd _ (by omega), hv_upd _ (by omega), pk_uLn (show k + 1 ≠ k by omega), e1, e2, pw_s (by omega)]
        rw [← hv1]
        generalize pw k = pk
        have t1 : pk * ((h k).toInt - 4294967296 - (h k).toInt) = -(4294967296 * pk) := by rw [show (h k).toInt - 4294967296 - (h k).toInt = -4294967296 by omega, Int.mul_neg, Int.mul_comm]
        have t2 : 4294967296 * pk * ((h (k + 1)).toInt + 1 - (h (k + 1)).toInt) = 4294967296 * pk := by rw [show (h (k + 1)).toInt + 1 - (h (k + 1)).toInt = 1 by omega, Int.mul_one]
        rw [t1, t2]
        omega
theorem c_X11_addBit {σ : gH} {h : Nat → Int64} (hM : Mm σ o ad (uJ S 26 h)) (hn : nrm h 8) {b : Int64} {e p : Nat} (he : e ≤ 1) (hb : b = lN e) (hp : p < 256) (hV : hv h + ((e * 2 ^ p : Nat) : Int) < 115792089237316195423570985008687907853269984665640564039457584007913129639936) : Ct l mX11_addBit 1 0 0 [.ref o, .long b, .int (nI p)] σ (pV fun σ' => ∃ h', Mm σ' o ad (uJ S 26 h') ∧ nrm h' 8 ∧ hv h' = hv h + ((e * 2 ^ p : Nat) : Int)) := by
  have h32 : nI p / 32 = nI (p / 32) := pk_div (d := 32) (by omega) (by decide) (by decide)
  have hr32 : nI p - nI p / 32 * 32 = nI (p % 32) := pk_rem (d := 32) (by omega) (by decide) (by decide)
  have hk : p / 32 < 8 := by omega
  have hI : vp_in (nI (p / 32)) 8 := vp_in_nI hk (by decide)
  have hck : (nI (p / 32)).toNatClampNeg = p / 32 := nI_clamp (by omega)
  refine Ct_of moX11_addBit [some (.ref o), some (.long b), none, some (.int (nI p)), none] rfl (Nat.le_of_ble_eq_true rfl) ?_
  by_cases e0 : e = 0
  · subst e0
    subst hb
    refine g_lload_n (i := 1) dX11_addBit_0 rfl rfl ?_
    refine g_lconst (v := 0) dX11_addBit_1 (by decide) ?_
    refine g_lcmp dX11_addBit_2 ?_
    refine g_if_ne (tgt := 7) dX11_addBit_3 (by decide) (fun zc3 => ?_) (fun zc3 => ?_)
    · exact absurd rfl zc3
    · refine g_vret dX11_addBit_6 rfl ?_
      exact ⟨rfl, h, hM, hn, by rw [Nat.zero_mul]; simp⟩
  · have e1 : e = 1 := by omega
    subst e1
    rw [Nat.one_mul] at hV ⊢
    have hs := sh_N (r := p % 32) (by omega)
    have h2 : 2 ^ (p % 32) ≤ 2147483648 := Nat.pow_le_pow_right (n := 2) (by decide) (show p % 32 ≤ 31 by omega)
    have hk2 := hn (p / 32) hk
    have hpw := pw_p hp
    generalize hT : 2 ^ (p % 32) = T at *
    have es : (h (p / 32) + gShl 1 (nI (p % 32))).toInt = (h (p / 32)).toInt + (T : Int) := by rw [lz_add (by rw [hs]; omega) (by rw [hs]; omega), hs]
    subst hb
    refine g_lload_n (i := 1) dX11_addBit_0 rfl rfl ?_
    refine g_lconst (v := 0) dX11_addBit_1 (by decide) ?_
    refine g_lcmp dX11_addBit_2 ?_
    refine g_if_ne (tgt := 7) dX11_addBit_3 (by decide) (fun zc3 => ?_) (fun zc3 => ?_)
    · refine g_iload_n (i := 3) dX11_addBit_7 rfl rfl ?_
      refine g_bipush (v := 32) dX11_addBit_8 (by decide) ?_
      refine g_idiv dX11_addBit_10 (by decide) ?_
      rw [h32]
      refine g_istore (ls' := [_, _, _, _, _]) dX11_addBit_11 (by decide) rfl rfl ?_
      refine g_aload_n (i := 0) dX11_addBit_13 rfl rfl ?_
      refine gm_get hM (k := 26) dX11_addBit_14 flX11_53 rfl ?_
      refine g_iload dX11_addBit_17 rfl ?_
      refine g_dup2 dX11_addBit_19 rfl rfl ?_
      refine gm_lald hM dX11_addBit_20 rfl (hI) ?_
      refine g_tol (h (p / 32)) (by rw [hck]; rfl) ?_
      refine g_lconst (v := 1) dX11_addBit_21 (by decide) ?_
      refine g_iload_n (i := 3) dX11_addBit_22 rfl rfl ?_
      refine g_bipush (v := 32) dX11_addBit_23 (by decide) ?_
      refine g_irem dX11_addBit_25 (by decide) ?_
      rw [hr32]
      refine g_lshl dX11_addBit_26 ?_
      refine g_ladd dX11_addBit_27 ?_
      refine gm_last hM dX11_addBit_28 rfl (hI) (fun σ hM => ?_)
      rw [hck, uJ_uJ] at hM
      have hM : Mm σ o ad (uJ S 26 (vp_updL h (p / 32) (h (p / 32) + gShl 1 (nI (p % 32))))) := hM
      refine lp_X11_addBit (V := hv h + ((2 ^ p : Nat) : Int)) hV _ _ (fun σ' h' q1 q2 q3 => ⟨rfl, h', q1, q2, q3⟩) (7 - p / 32) (p / 32) _ σ (by omega) hM (fun j hjj hne => by rw [pk_uLn hne]; exact hn j hjj) (by rw [pk_uLs, es]; omega) (by rw [pk_uLs, es]; omega) ?_
      rw [hv_upd _ hk, es, show (h (p / 32)).toInt + (T : Int) - (h (p / 32)).toInt = (T : Int) by omega, hpw]
    · exact absurd zc3 (by decide)
theorem lp_X11_takeBit {V : Int} (x1 : Int32) (hp : ∀ (σ' : gH) (h : Nat → Int64), Mm σ' o ad (uJ S 26 h) → nrm h 7 → (h 7).toInt < 4294967296 → hv h = V → post none σ') : ∀ (n k : Nat) (h : Nat → Int64) (σ : gH), k + n = 7 → Mm σ o ad (uJ S 26 h) → (∀ j, j < 8 → j ≠ k → 0 ≤ (h j).toInt ∧ (h j).toInt < 4294967296) → -4294967296 ≤ (h k).toInt → (h k).toInt < 4294967296 → hv h = V → G l mX11_takeBit 1 0 0 post σ 20 [some (.ref o), some (.int x1), some (.int (nI k))] [] := by
  intro n
  induction n with
  | zero =>
    intro k h σ hk hM hj h0 h1 hv1
    obtain rfl : k = 7 := by omega
    refine g_iload_n (i := 2) dX11_takeBit_20 rfl rfl ?_
    refine g_bipush (v := 7) dX11_takeBit_21 (by decide) ?_
    refine g_icmp_ge (tgt := 65) dX11_takeBit_23 (by decide) (fun zc23 => ?_) (fun zc23 => ?_)
    · refine g_vret dX11_takeBit_65 rfl ?_
      exact hp _ h hM (fun j hjj => hj j (by omega) (by omega)) h1 hv1
    · exact absurd (by decide) zc23
  | succ n ih =>
    intro k h σ hk hM hj h0 h1 hv1
    have hI : vp_in (nI k) 8 := vp_in_nI (by omega) (by decide)
    have hI1 : vp_in (nI (k + 1)) 8 := vp_in_nI (by omega) (by decide)
    have hck : (nI k).toNatClampNeg = k := nI_clamp (by omega)
    have hck1 : (nI (k + 1)).toNatClampNeg = k + 1 := nI_clamp (by omega)
    have hn1 := hj (k + 1) (by omega) (by omega)
    have h77 := hj 7 (by decide) (by omega)
    refine g_iload_n (i := 2) dX11_takeBit_20 rfl rfl ?_
    refine g_bipush (v := 7) dX11_takeBit_21 (by decide) ?_
    refine g_icmp_ge (tgt := 65) dX11_takeBit_23 (by decide) (fun zc23 => ?_) (fun zc23 => ?_)
    · exact absurd zc23 (nI_ge (b := 7) (by omega) (by decide))
    · refine g_aload_n (i := 0) dX11_takeBit_26 rfl rfl ?_
      refine gm_get hM (k := 26) dX11_takeBit_27 flX11_53 rfl ?_
      refine g_iload_n (i := 2) dX11_takeBit_30 rfl rfl ?_
      refine gm_lald hM dX11_takeBit_31 rfl (hI) ?_
      refine g_tol (h k) (by rw [hck]; rfl) ?_
      refine g_lconst (v := 0) dX11_takeBit_32 (by decide) ?_
      refine g_lcmp dX11_takeBit_33 ?_
      refine g_if_ge (tgt := 65) dX11_takeBit_34 (by decide) (fun zc34 => ?_) (fun zc34 => ?_)
      · refine g_vret dX11_takeBit_65 rfl ?_
        have q := (lg_cmp_ge _ _).mp zc34
        rw [Int64.le_iff_toInt_le, i64c4] at q
        refine hp _ h hM (fun j hjj => ?_) h77.2 hv1
        by_cases e : j = k
        · subst e; omega
        · exact hj j (by omega) e
      · refine g_aload_n (i := 0) dX11_takeBit_37 rfl rfl ?_
        refine gm_get hM (k := 26) dX11_takeBit_38 flX11_53 rfl ?_
        refine g_iload_n (i := 2) dX11_takeBit_41 rfl rfl ?_
        refine g_dup2 dX11_takeBit_42 rfl rfl ?_
        refine gm_lald hM dX11_takeBit_43 rfl (hI) ?_
        refine g_tol (h k) (by rw [hck]; rfl) ?_
        refine g_ldc2 (v := 4294967296) dX11_takeBit_44 klX11_259 ?_
        refine g_ladd dX11_takeBit_47 ?_
        refine gm_last hM dX11_takeBit_48 rfl (hI) (fun σ hM => ?_)
        rw [hck, uJ_uJ] at hM
        have hM : Mm σ o ad (uJ S 26 (vp_updL h k (h k + 4294967296))) := hM
        refine g_iinc (v := _ + 1) (ls' := [_, _, _]) dX11_takeBit_49 rfl rfl (by decide) rfl rfl ?_
        rw [nI_1]
        refine g_aload_n (i := 0) dX11_takeBit_52 rfl rfl ?_
        refine gm_get hM (k := 26) dX11_takeBit_53 flX11_53 rfl ?_
        refine g_iload_n (i := 2) dX11_takeBit_56 rfl rfl ?_
        refine g_dup2 dX11_takeBit_57 rfl rfl ?_
        refine gm_lald hM dX11_takeBit_58 rfl (hI1) ?_
        refine g_tol (h (k + 1)) (by rw [hck1]; exact pk_uLn (by omega)) ?_
        refine g_lconst (v := 1) dX11_takeBit_59 (by decide) ?_
        refine g_lsub dX11_takeBit_60 ?_
        refine gm_last hM dX11_takeBit_61 rfl (hI1) (fun σ hM => ?_)
        rw [hck1, uJ_uJ] at hM
        have hM : Mm σ o ad (uJ S 26 (vp_updL (vp_updL h k (h k + 4294967296)) (k + 1) (h (k + 1) - 1))) := hM
        refine g_goto (tgt := 20) dX11_takeBit_62 (by decide) ?_
        have q : ¬ (0 ≤ h k) := fun z => zc34 ((lg_cmp_ge _ _).mpr z)
        rw [Int64.le_iff_toInt_le, i64c4] at q
        have e1 : (h k + 4294967296).toInt = (h k).toInt + 4294967296 := by rw [lz_add (by rw [i64c2]; omega) (by rw [i64c2]; omega), i64c2]
        have e2 : (h (k + 1) - 1).toInt = (h (k + 1)).toInt - 1 := by rw [lz_sub (by rw [i64c3]; omega) (by rw [i64c3]; omega), i64c3]
        refine ih (k + 1) _ σ (by omega) hM (fun j hjj hne => ?_) (by rw [pk_uLs, e2]; omega) (by rw [pk_uLs, e2]; omega) ?_
        · rw [pk_uLn hne]
          by_cases e : j = k
          · subst e; rw [pk_uLs, e1]; omega
          · rw [pk_uLn e]; exact hj j hjj e
        · rw [hv_upd _ (by omega), hv_upd _ (by omega), pk_uLn (show k + 1 ≠ k by omega), e1, e2, pw_s (by omega)]
          rw [← hv1]
          generalize pw k = pk
          have t1 : pk * ((h k).toInt + 4294967296 - (h k).toInt) = 4294967296 * pk := by rw [show (h k).toInt + 4294967296 - (h k).toInt = 4294967296 by omega, Int.mul_comm]
          have t2 : 4294967296 * pk * ((h (k + 1)).toInt - 1 - (h (k + 1)).toInt) = -(4294967296 * pk) := by rw [show (h (k + 1)).toInt - 1 - (h (k + 1)).toInt = -1 by omega, Int.mul_neg, Int.mul_one]
          rw [t1, t2]
          omega
theorem c_X11_takeBit {σ : gH} {h : Nat → Int64} (hM : Mm σ o ad (uJ S 26 h)) (hn : nrm h 8) {p : Nat} (hp : p < 256) : Ct l mX11_takeBit 1 0 0 [.ref o, .int (nI p)] σ (pV fun σ' => ∃ h', Mm σ' o ad (uJ S 26 h') ∧ nrm h' 7 ∧ (h' 7).toInt < 4294967296 ∧ hv h' = hv h - ((2 ^ p : Nat) : Int)) := by
  have h32 : nI p / 32 = nI (p / 32) := pk_div (d := 32) (by omega) (by decide) (by decide)
  have hr32 : nI p - nI p / 32 * 32 = nI (p % 32) := pk_rem (d := 32) (by omega) (by decide) (by decide)
  have hk : p / 32 < 8 := by omega
  have hI : vp_in (nI (p / 32)) 8 := vp_in_nI hk (by decide)
  have hck : (nI (p / 32)).toNatClampNeg = p / 32 := nI_clamp (by omega)
  have hs := sh_N (r := p % 32) (by omega)
  have h2 : 2 ^ (p % 32) ≤ 2147483648 := Nat.pow_le_pow_right (n := 2) (by decide) (show p % 32 ≤ 31 by omega)
  have hk2 := hn (p / 32) hk
  have hpw := pw_p hp
  generalize hT : 2 ^ (p % 32) = T at *
  have es : (h (p / 32) - gShl 1 (nI (p % 32))).toInt = (h (p / 32)).toInt - (T : Int) := by rw [lz_sub (by rw [hs]; omega) (by rw [hs]; omega), hs]
  refine Ct_of moX11_takeBit [some (.ref o), some (.int (nI p)), none] rfl (Nat.le_of_ble_eq_true rfl) ?_
  refine g_iload_n (i := 1) dX11_takeBit_0 rfl rfl ?_
  refine g_bipush (v := 32) dX11_takeBit_1 (by decide) ?_
  refine g_idiv dX11_takeBit_3 (by decide) ?_
  rw [h32]
  refine g_istore_n (i := 2) (ls' := [_, _, _]) dX11_takeBit_4 rfl (by decide) rfl rfl ?_
  refine g_aload_n (i := 0) dX11_takeBit_5 rfl rfl ?_
  refine gm_get hM (k := 26) dX11_takeBit_6 flX11_53 rfl ?_
  refine g_iload_n (i := 2) dX11_takeBit_9 rfl rfl ?_
  refine g_dup2 dX11_takeBit_10 rfl rfl ?_
  refine gm_lald hM dX11_takeBit_11 rfl (hI) ?_
  refine g_tol (h (p / 32)) (by rw [hck]; rfl) ?_
  refine g_lconst (v := 1) dX11_takeBit_12 (by decide) ?_
  refine g_iload_n (i := 1) dX11_takeBit_13 rfl rfl ?_
  refine g_bipush (v := 32) dX11_takeBit_14 (by decide) ?_
  refine g_irem dX11_takeBit_16 (by decide) ?_
  rw [hr32]
  refine g_lshl dX11_takeBit_17 ?_
  refine g_lsub dX11_takeBit_18 ?_
  refine gm_last hM dX11_takeBit_19 rfl (hI) (fun σ hM => ?_)
  rw [hck, uJ_uJ] at hM
  have hM : Mm σ o ad (uJ S 26 (vp_updL h (p / 32) (h (p / 32) - gShl 1 (nI (p % 32))))) := hM
  refine lp_X11_takeBit (V := hv h - ((2 ^ p : Nat) : Int)) _ (fun σ' h' q1 q2 q3 q4 => ⟨rfl, h', q1, q2, q3, q4⟩) (7 - p / 32) (p / 32) _ σ (by omega) hM (fun j hjj hne => by rw [pk_uLn hne]; exact hn j hjj) (by rw [pk_uLs, es]; omega) (by rw [pk_uLs, es]; omega) ?_
  rw [hv_upd _ hk, es, show (h (p / 32)).toInt - (T : Int) - (h (p / 32)).toInt = -(T : Int) by omega, Int.mul_neg, hpw]
  rfl
end CMcheck1
