/-! numbers: what the class makes is what the reference makes -/
theorem pw64 : (2 : Nat) ^ 64 = 18446744073709551616 := by decide
theorem sig_int (v : Int64) {N : Nat} (hN : N = 8 ∨ N = 16 ∨ N = 32 ∨ N = 64) : (mSig v (nI N)).toInt = if 2 * (uN v % 2 ^ N) < 2 ^ N then ((uN v % 2 ^ N : Nat) : Int) else ((uN v % 2 ^ N : Nat) : Int) - ((2 ^ N : Nat) : Int) := by
  have hv := uN_lt v
  by_cases h64 : N = 64
  · subst h64
    rw [mSig, if_pos (by decide), uN_int, pw64, Nat.mod_eq_of_lt hv]
    rfl
  · rw [mSig, if_neg (by rcases hN with rfl | rfl | rfl | rfl <;> first | decide | exact absurd rfl h64)]
    have hs : (64 : Int32) - nI N = nI (64 - N) := by rcases hN with rfl | rfl | rfl | rfl <;> decide
    have hlt : 64 - N < 64 := by omega
    rw [hs, gShr_int _ hlt, uN_int, uN_gShl v hlt]
    rcases hN with rfl | rfl | rfl | rfl
    · simp only [Nat.reduceSub, Nat.reducePow, Int.reducePow]
      split <;> split <;> omega
    · simp only [Nat.reduceSub, Nat.reducePow, Int.reducePow]
      split <;> split <;> omega
    · simp only [Nat.reduceSub, Nat.reducePow, Int.reducePow]
      split <;> split <;> omega
    · exact absurd rfl h64
theorem mUp_iff (v : Int64) {N : Nat} (hN : N = 8 ∨ N = 16 ∨ N = 32 ∨ N = 64) : mUp v (nI N) ↔ uN v / 2 ^ (N - 1) % 2 = 1 := by
  have h1 : nI N - 1 = nI (N - 1) := by rcases hN with rfl | rfl | rfl | rfl <;> decide
  have hb := uN_bit (gUshr v (nI (N - 1)))
  rw [uN_gUshr v (by omega)] at hb
  have h01 : gUshr v (nI (N - 1)) &&& 1 = 0 ∨ gUshr v (nI (N - 1)) &&& 1 = 1 := by
    have e : uN (gUshr v (nI (N - 1)) &&& 1) = uN (gUshr v (nI (N - 1))) % 2 := by
      rw [uN_and, show uN 1 = 2 ^ 1 - 1 from by decide, Nat.and_two_pow_sub_one_eq_mod]
    rcases Nat.mod_two_eq_zero_or_one (uN (gUshr v (nI (N - 1)))) with q | q
    · left
      apply uN_inj
      rw [e, q]
      rfl
    · right
      apply uN_inj
      rw [e, q]
      rfl
  show gUshr v (nI N - 1) &&& 1 = 1 ↔ _
  rw [h1]
  constructor
  · intro q
    have : ¬ (gUshr v (nI (N - 1)) &&& 1 = 0) := by rw [q]; decide
    rw [hb] at this
    omega
  · intro q
    rcases h01 with z | z
    · have := hb.mp z
      omega
    · exact z
theorem mUp_lt {v : Int64} {N : Nat} (hN : N = 8 ∨ N = 16 ∨ N = 32 ∨ N = 64) (hv : uN v < 2 ^ N) : mUp v (nI N) ↔ 2 ^ (N - 1) ≤ uN v := by
  rw [mUp_iff v hN]
  rcases hN with rfl | rfl | rfl | rfl
  · simp only [Nat.reduceSub, Nat.reducePow] at *; omega
  · simp only [Nat.reduceSub, Nat.reducePow] at *; omega
  · simp only [Nat.reduceSub, Nat.reducePow] at *; omega
  · simp only [Nat.reduceSub, Nat.reducePow] at *; omega
theorem rol0 {x : Int64} {N : Nat} (hN : N = 8 ∨ N = 16 ∨ N = 32 ∨ N = 64) (hx : uN x < 2 ^ N) : mLow (gUshr x 0 ||| gShl x (nI N - 0)) (nI N) = x := by
  have e0 : gUshr x 0 = x := by
    apply uN_inj
    rw [show (0 : Int32) = nI 0 from rfl, uN_gUshr x (by decide), Nat.pow_zero, Nat.div_one]
  rw [e0]
  by_cases h64 : N = 64
  · subst h64
    have e : gShl x (nI 64 - 0) = x := by
      apply uN_inj
      show uN (x <<< ((nI 64 - 0).toInt64 &&& 63)) = uN x
      rw [show ((nI 64 - 0).toInt64 &&& 63) = ((nI 0).toInt64 &&& 63) from by decide]
      have := uN_gShl x (s := 0) (by decide)
      rw [Nat.pow_zero, Nat.mul_one, Nat.mod_eq_of_lt (uN_lt x)] at this
      exact this
    rw [e]
    apply uN_inj
    rw [uN_mLow _ hN, uN_or', Nat.or_self]
    exact Nat.mod_eq_of_lt (uN_lt x)
  · have hlt : N < 64 := by omega
    have en : nI N - 0 = nI N := by rcases hN with rfl | rfl | rfl | rfl <;> decide
    rw [en]
    apply uN_inj
    rw [uN_mLow _ hN, uN_or', uN_gShl x hlt, Nat.or_mod_two_pow, Nat.mod_eq_of_lt hx]
    have : uN x * 2 ^ N % 18446744073709551616 % 2 ^ N = 0 := by
      have hd : 2 ^ N ∣ 18446744073709551616 := by
        rw [← pw64]
        exact Nat.pow_dvd_pow 2 (by omega)
      rw [Nat.mod_mod_of_dvd _ hd, Nat.mul_mod_left]
    rw [this, Nat.or_zero]
theorem bAp_eq {w : Int32} {N : Nat} (hN : N = 8 ∨ N = 16 ∨ N = 32 ∨ N = 64) (hw : w = nI N) {c : Nat} (hc : c ≤ 12) {x y : Int64} (hx : uN x < 2 ^ N) : bAp w (nI c) x y = mAp (nI c) x y w := by
  have hW : isW w := by rw [hw]; rcases hN with rfl | rfl | rfl | rfl <;> decide
  rcases (show c = 0 ∨ c = 1 ∨ c = 2 ∨ c = 3 ∨ c = 4 ∨ c = 5 ∨ c = 6 ∨ c = 7 ∨ c = 8 ∨ c = 9 ∨ c = 10 ∨ c = 11 ∨ c = 12 by omega) with rfl | rfl | rfl | rfl | rfl | rfl | rfl | rfl | rfl | rfl | rfl | rfl | rfl
  · rw [bAp, if_pos (show nI 0 = 0 by decide), mAp, if_pos (show nI 0 = 0 by decide)]
  · rw [bAp, if_neg (show ¬ nI 1 = 0 by decide), if_pos (show nI 1 = 1 by decide), mAp, if_neg (show ¬ nI 1 = 0 by decide), if_pos (show nI 1 = 1 by decide)]
    rw [sig_eq _ hW, low_eq _ hW]
  · rw [bAp, if_neg (show ¬ nI 2 = 0 by decide), if_neg (show ¬ nI 2 = 1 by decide), if_pos (show nI 2 = 2 by decide), mAp, if_neg (show ¬ nI 2 = 0 by decide), if_neg (show ¬ nI 2 = 1 by decide), if_pos (show nI 2 = 2 by decide)]
    rfl
  · rw [bAp, if_neg (show ¬ nI 3 = 0 by decide), if_neg (show ¬ nI 3 = 1 by decide), if_neg (show ¬ nI 3 = 2 by decide), if_pos (show nI 3 = 3 by decide), mAp, if_neg (show ¬ nI 3 = 0 by decide), if_neg (show ¬ nI 3 = 1 by decide), if_neg (show ¬ nI 3 = 2 by decide), if_pos (show nI 3 = 3 by decide)]
    unfold bHiS mHiS
    rw [sig_eq _ hW, sig_eq _ hW, low_eq _ hW]
  · rw [bAp, if_neg (show ¬ nI 4 = 0 by decide), if_neg (show ¬ nI 4 = 1 by decide), if_neg (show ¬ nI 4 = 2 by decide), if_neg (show ¬ nI 4 = 3 by decide), if_pos (show nI 4 = 4 by decide), mAp, if_neg (show ¬ nI 4 = 0 by decide), if_neg (show ¬ nI 4 = 1 by decide), if_neg (show ¬ nI 4 = 2 by decide), if_neg (show ¬ nI 4 = 3 by decide), if_pos (show nI 4 = 4 by decide)]
    rw [low_eq _ hW]
  · rw [bAp, if_neg (show ¬ nI 5 = 0 by decide), if_neg (show ¬ nI 5 = 1 by decide), if_neg (show ¬ nI 5 = 2 by decide), if_neg (show ¬ nI 5 = 3 by decide), if_neg (show ¬ nI 5 = 4 by decide), if_pos (show nI 5 = 5 by decide), mAp, if_neg (show ¬ nI 5 = 0 by decide), if_neg (show ¬ nI 5 = 1 by decide), if_neg (show ¬ nI 5 = 2 by decide), if_neg (show ¬ nI 5 = 3 by decide), if_neg (show ¬ nI 5 = 4 by decide), if_pos (show nI 5 = 5 by decide)]
    rw [low_eq _ hW]
  · rw [bAp, if_neg (show ¬ nI 6 = 0 by decide), if_neg (show ¬ nI 6 = 1 by decide), if_neg (show ¬ nI 6 = 2 by decide), if_neg (show ¬ nI 6 = 3 by decide), if_neg (show ¬ nI 6 = 4 by decide), if_neg (show ¬ nI 6 = 5 by decide), if_pos (show nI 6 = 6 by decide), mAp, if_neg (show ¬ nI 6 = 0 by decide), if_neg (show ¬ nI 6 = 1 by decide), if_neg (show ¬ nI 6 = 2 by decide), if_neg (show ¬ nI 6 = 3 by decide), if_neg (show ¬ nI 6 = 4 by decide), if_neg (show ¬ nI 6 = 5 by decide), if_pos (show nI 6 = 6 by decide)]
    rw [low_eq _ hW]
  · rw [bAp, if_neg (show ¬ nI 7 = 0 by decide), if_neg (show ¬ nI 7 = 1 by decide), if_neg (show ¬ nI 7 = 2 by decide), if_neg (show ¬ nI 7 = 3 by decide), if_neg (show ¬ nI 7 = 4 by decide), if_neg (show ¬ nI 7 = 5 by decide), if_neg (show ¬ nI 7 = 6 by decide), if_pos (show nI 7 = 7 by decide), mAp, if_neg (show ¬ nI 7 = 0 by decide), if_neg (show ¬ nI 7 = 1 by decide), if_neg (show ¬ nI 7 = 2 by decide), if_neg (show ¬ nI 7 = 3 by decide), if_neg (show ¬ nI 7 = 4 by decide), if_neg (show ¬ nI 7 = 5 by decide), if_neg (show ¬ nI 7 = 6 by decide), if_pos (show nI 7 = 7 by decide)]
    rw [low_eq _ hW]
  · rw [bAp, if_neg (show ¬ nI 8 = 0 by decide), if_neg (show ¬ nI 8 = 1 by decide), if_neg (show ¬ nI 8 = 2 by decide), if_neg (show ¬ nI 8 = 3 by decide), if_neg (show ¬ nI 8 = 4 by decide), if_neg (show ¬ nI 8 = 5 by decide), if_neg (show ¬ nI 8 = 6 by decide), if_neg (show ¬ nI 8 = 7 by decide), if_pos (show nI 8 = 8 by decide), mAp, if_neg (show ¬ nI 8 = 0 by decide), if_neg (show ¬ nI 8 = 1 by decide), if_neg (show ¬ nI 8 = 2 by decide), if_neg (show ¬ nI 8 = 3 by decide), if_neg (show ¬ nI 8 = 4 by decide), if_neg (show ¬ nI 8 = 5 by decide), if_neg (show ¬ nI 8 = 6 by decide), if_neg (show ¬ nI 8 = 7 by decide), if_pos (show nI 8 = 8 by decide)]
  · rw [bAp, if_neg (show ¬ nI 9 = 0 by decide), if_neg (show ¬ nI 9 = 1 by decide), if_neg (show ¬ nI 9 = 2 by decide), if_neg (show ¬ nI 9 = 3 by decide), if_neg (show ¬ nI 9 = 4 by decide), if_neg (show ¬ nI 9 = 5 by decide), if_neg (show ¬ nI 9 = 6 by decide), if_neg (show ¬ nI 9 = 7 by decide), if_neg (show ¬ nI 9 = 8 by decide), if_pos (show nI 9 = 9 by decide), mAp, if_neg (show ¬ nI 9 = 0 by decide), if_neg (show ¬ nI 9 = 1 by decide), if_neg (show ¬ nI 9 = 2 by decide), if_neg (show ¬ nI 9 = 3 by decide), if_neg (show ¬ nI 9 = 4 by decide), if_neg (show ¬ nI 9 = 5 by decide), if_neg (show ¬ nI 9 = 6 by decide), if_neg (show ¬ nI 9 = 7 by decide), if_neg (show ¬ nI 9 = 8 by decide), if_pos (show nI 9 = 9 by decide)]
  · rw [bAp, if_neg (show ¬ nI 10 = 0 by decide), if_neg (show ¬ nI 10 = 1 by decide), if_neg (show ¬ nI 10 = 2 by decide), if_neg (show ¬ nI 10 = 3 by decide), if_neg (show ¬ nI 10 = 4 by decide), if_neg (show ¬ nI 10 = 5 by decide), if_neg (show ¬ nI 10 = 6 by decide), if_neg (show ¬ nI 10 = 7 by decide), if_neg (show ¬ nI 10 = 8 by decide), if_neg (show ¬ nI 10 = 9 by decide), if_pos (show nI 10 = 10 by decide), mAp, if_neg (show ¬ nI 10 = 0 by decide), if_neg (show ¬ nI 10 = 1 by decide), if_neg (show ¬ nI 10 = 2 by decide), if_neg (show ¬ nI 10 = 3 by decide), if_neg (show ¬ nI 10 = 4 by decide), if_neg (show ¬ nI 10 = 5 by decide), if_neg (show ¬ nI 10 = 6 by decide), if_neg (show ¬ nI 10 = 7 by decide), if_neg (show ¬ nI 10 = 8 by decide), if_neg (show ¬ nI 10 = 9 by decide), if_pos (show nI 10 = 10 by decide)]
    rw [low_eq _ hW]
    by_cases hy : y = 0
    · rw [if_pos hy, hy, hw, show (0 : Int64).toInt32 = 0 from by decide]
      exact rol0 hN hx
    · rw [if_neg hy]
  · rw [bAp, if_neg (show ¬ nI 11 = 0 by decide), if_neg (show ¬ nI 11 = 1 by decide), if_neg (show ¬ nI 11 = 2 by decide), if_neg (show ¬ nI 11 = 3 by decide), if_neg (show ¬ nI 11 = 4 by decide), if_neg (show ¬ nI 11 = 5 by decide), if_neg (show ¬ nI 11 = 6 by decide), if_neg (show ¬ nI 11 = 7 by decide), if_neg (show ¬ nI 11 = 8 by decide), if_neg (show ¬ nI 11 = 9 by decide), if_neg (show ¬ nI 11 = 10 by decide), if_pos (show nI 11 = 11 by decide), mAp, if_neg (show ¬ nI 11 = 0 by decide), if_neg (show ¬ nI 11 = 1 by decide), if_neg (show ¬ nI 11 = 2 by decide), if_neg (show ¬ nI 11 = 3 by decide), if_neg (show ¬ nI 11 = 4 by decide), if_neg (show ¬ nI 11 = 5 by decide), if_neg (show ¬ nI 11 = 6 by decide), if_neg (show ¬ nI 11 = 7 by decide), if_neg (show ¬ nI 11 = 8 by decide), if_neg (show ¬ nI 11 = 9 by decide), if_neg (show ¬ nI 11 = 10 by decide), if_pos (show nI 11 = 11 by decide)]
  · rw [bAp, if_neg (show ¬ nI 12 = 0 by decide), if_neg (show ¬ nI 12 = 1 by decide), if_neg (show ¬ nI 12 = 2 by decide), if_neg (show ¬ nI 12 = 3 by decide), if_neg (show ¬ nI 12 = 4 by decide), if_neg (show ¬ nI 12 = 5 by decide), if_neg (show ¬ nI 12 = 6 by decide), if_neg (show ¬ nI 12 = 7 by decide), if_neg (show ¬ nI 12 = 8 by decide), if_neg (show ¬ nI 12 = 9 by decide), if_neg (show ¬ nI 12 = 10 by decide), if_neg (show ¬ nI 12 = 11 by decide), if_pos (show nI 12 = 12 by decide), mAp, if_neg (show ¬ nI 12 = 0 by decide), if_neg (show ¬ nI 12 = 1 by decide), if_neg (show ¬ nI 12 = 2 by decide), if_neg (show ¬ nI 12 = 3 by decide), if_neg (show ¬ nI 12 = 4 by decide), if_neg (show ¬ nI 12 = 5 by decide), if_neg (show ¬ nI 12 = 6 by decide), if_neg (show ¬ nI 12 = 7 by decide), if_neg (show ¬ nI 12 = 8 by decide), if_neg (show ¬ nI 12 = 9 by decide), if_neg (show ¬ nI 12 = 10 by decide), if_neg (show ¬ nI 12 = 11 by decide)]
    have h1 : w - 1 = nI (N - 1) := by rw [hw]; rcases hN with rfl | rfl | rfl | rfl <;> decide
    have hq : gUshr x (w - 1) = 0 ↔ uN x < 2 ^ (N - 1) := by
      rw [h1]
      have e := uN_gUshr x (s := N - 1) (by omega)
      constructor
      · intro z
        rw [z] at e
        have e0 : uN 0 = 0 := by decide
        rw [e0] at e
        rcases hN with rfl | rfl | rfl | rfl <;> (simp only [Nat.reduceSub, Nat.reducePow] at *; omega)
      · intro z
        apply uN_inj
        rw [e, Nat.div_eq_of_lt z]
        rfl
    have hu := mUp_lt hN hx
    rw [← hw] at hu
    by_cases z : mUp x w
    · rw [if_pos z, if_neg (fun q => absurd (hq.mp q) (Nat.not_lt.mpr (hu.mp z)))]
    · rw [if_neg z, if_pos (hq.mpr (Nat.not_le.mp (fun q => z (hu.mpr q))))]
theorem wfS_y {N : Nat} (hN : N = 8 ∨ N = 16 ∨ N = 32 ∨ N = 64) {k : Nat} {s : aSt} (h : wfS (nI N) k s) (ho : ¬ isOp s.1) : uN s.2.2 < 2 ^ N := by
  obtain ⟨-, -, -, h4, h5⟩ := h
  by_cases hc : isCt s.1
  · obtain ⟨y, h1, h2, h3⟩ := h4 hc
    rw [h3, uN_lN (by omega)]
    have : y < N := (nI_ltI (by omega) (by omega)).mp h1
    exact Nat.lt_trans this (Nat.lt_two_pow_self)
  · rw [← h5 ho hc]
    exact mLow_lt _ hN
theorem wfF_lt {g : aF} (h : wfF g) (v : Int64) : ∃ N : Nat, (N = 8 ∨ N = 16 ∨ N = 32 ∨ N = 64) ∧ g.1 = nI N ∧ ∀ k i, uN (opA g.1 g.2 v k i) < 2 ^ N := by
  obtain ⟨N, hN, hw⟩ := isW_N h.1
  refine ⟨N, hN, hw, fun k i => ?_⟩
  rw [hw]
  refine opA_lt hN (fun s hs ho => ?_) v k i
  obtain ⟨j, hj⟩ := List.getElem?_of_mem hs
  have := h.2.2 j s hj
  rw [hw] at this
  exact wfS_y hN this ho
theorem qLp_N (a b : Int64) (hb : 0 < uN b) : ∀ (n : Nat) (q r : Int64), n ≤ 64 → uN r < uN b → uN (qLp a b n q r).2 = (uN r * 2 ^ n + uN a % 2 ^ n) % uN b ∧ uN (qLp a b n q r).1 = (uN q * 2 ^ n + (uN r * 2 ^ n + uN a % 2 ^ n) / uN b) % 18446744073709551616 := by
  have hB := uN_lt b
  intro n
  induction n with
  | zero =>
    intro q r _ hr
    rw [qLp, Nat.pow_zero, Nat.mod_one, Nat.mul_one, Nat.mul_one, Nat.add_zero, Nat.mod_eq_of_lt hr, Nat.div_eq_of_lt hr, Nat.add_zero]
    exact ⟨rfl, (Nat.mod_eq_of_lt (uN_lt q)).symm⟩
  | succ n ih =>
    intro q r hn hr
    have hR := uN_lt r
    have hbit : uN (gUshr a (nI n) &&& 1) = uN a / 2 ^ n % 2 := by
      rw [uN_and, uN_gUshr a (by omega), show uN 1 = 2 ^ 1 - 1 from by decide, Nat.and_two_pow_sub_one_eq_mod]
    obtain ⟨t, ht⟩ : ∃ t, t = uN a / 2 ^ n % 2 := ⟨_, rfl⟩
    have ht2 : t < 2 := by omega
    have hr1 : uN (gShl r 1 ||| (gUshr a (nI n) &&& 1)) = (2 * uN r) % 18446744073709551616 + t := by
      rw [ht, ← hbit]
      exact uN_or (by rw [hbit]; omega)
    have hq0 : uN (gShl q 1) = (2 * uN q) % 18446744073709551616 := uN_shl q
    have hq1 : uN (gShl q 1 ||| 1) = (2 * uN q) % 18446744073709551616 + 1 := uN_or (y := 1) (by decide)
    have hneg : r < 0 ↔ 9223372036854775808 ≤ uN r := by
      rw [Int64.lt_iff_toInt_lt, uN_int, i64c4]
      split <;> omega
    have hms := Nat.mod_pow_succ (x := uN a) (b := 2) (k := n)
    rw [← ht] at hms
    have key : uN r * 2 ^ (n + 1) + uN a % 2 ^ (n + 1) = (2 * uN r + t) * 2 ^ n + uN a % 2 ^ n := by
      rw [hms, Nat.pow_succ, Nat.add_mul, Nat.mul_comm 2 (uN r), Nat.mul_assoc, Nat.mul_comm 2 (2 ^ n), Nat.mul_comm t]
      omega
    have keyq : uN q * 2 ^ (n + 1) = 2 * uN q * 2 ^ n := by rw [Nat.pow_succ, Nat.mul_comm 2 (uN q), Nat.mul_assoc, Nat.mul_comm 2 (2 ^ n)]
    rw [key, keyq]
    generalize uN a % 2 ^ n = x at *
    by_cases hc : r < 0 ∨ ¬ bLt (gShl r 1 ||| (gUshr a (nI n) &&& 1)) b
    · rw [qLp_t hc]
      have hge : uN b ≤ 2 * uN r + t := by
        rcases hc with z | z
        · have := hneg.mp z; omega
        · rw [uN_bLt, hr1] at z
          have h1 : 2 * uN r % 18446744073709551616 ≤ 2 * uN r := Nat.mod_le _ _
          omega
      have hr' : uN ((gShl r 1 ||| (gUshr a (nI n) &&& 1)) - b) = 2 * uN r + t - uN b := by
        rw [uN_sub, hr1]
        omega
      have hlt : 2 * uN r + t - uN b < uN b := by omega
      obtain ⟨e1, e2⟩ := ih (gShl q 1 ||| 1) _ (by omega) (show uN ((gShl r 1 ||| (gUshr a (nI n) &&& 1)) - b) < uN b by rw [hr']; exact hlt)
      rw [e1, e2, hr', hq1]
      have hsp : (2 * uN r + t) * 2 ^ n + x = (2 * uN r + t - uN b) * 2 ^ n + x + uN b * 2 ^ n := by
        have : 2 * uN r + t = (2 * uN r + t - uN b) + uN b := by omega
        rw [this, Nat.add_mul]
        simp only [Nat.add_sub_cancel]
        omega
      rw [hsp, Nat.add_mul_mod_self_left, Nat.add_mul_div_left _ _ hb]
      refine ⟨rfl, ?_⟩
      generalize ((2 * uN r + t - uN b) * 2 ^ n + x) / uN b = Y
      rw [show 2 * uN q * 2 ^ n + (Y + 2 ^ n) = (2 * uN q + 1) * 2 ^ n + Y by rw [Nat.add_mul]; omega]
      rw [Nat.add_mod ((2 * uN q % 18446744073709551616 + 1) * 2 ^ n), Nat.add_mod ((2 * uN q + 1) * 2 ^ n)]
      congr 2
      rw [Nat.mul_mod, Nat.mul_mod (2 * uN q + 1)]
      congr 2
      omega
    · rw [qLp_f hc]
      have hno : uN r < 9223372036854775808 := Nat.not_le.mp (fun z => hc (Or.inl (hneg.mpr z)))
      have hlt : 2 * uN r + t < uN b := by
        have z : bLt (gShl r 1 ||| (gUshr a (nI n) &&& 1)) b := Classical.byContradiction (fun z => hc (Or.inr z))
        rw [uN_bLt, hr1] at z
        omega
      have hr' : uN (gShl r 1 ||| (gUshr a (nI n) &&& 1)) = 2 * uN r + t := by
        rw [hr1]
        omega
      obtain ⟨e1, e2⟩ := ih (gShl q 1) _ (by omega) (show uN (gShl r 1 ||| (gUshr a (nI n) &&& 1)) < uN b by rw [hr']; exact hlt)
      rw [e1, e2, hr', hq0]
      refine ⟨rfl, ?_⟩
      generalize ((2 * uN r + t) * 2 ^ n + x) / uN b = Y
      rw [Nat.add_mod (2 * uN q % 18446744073709551616 * 2 ^ n), Nat.add_mod (2 * uN q * 2 ^ n)]
      congr 2
      rw [Nat.mul_mod, Nat.mul_mod (2 * uN q)]
      congr 2
      omega
theorem mQuo_N (a b : Int64) (hb : 0 < uN b) : uN (mQuo a b) = uN a / uN b := by
  have h := (qLp_N a b hb 64 0 0 (Nat.le_refl _) (by rw [show uN 0 = 0 from by decide]; exact hb)).2
  rw [show uN 0 = 0 from by decide, Nat.zero_mul, Nat.zero_add, Nat.zero_add, pw64, Nat.mod_eq_of_lt (uN_lt a), Nat.mod_eq_of_lt (Nat.lt_of_le_of_lt (Nat.div_le_self _ _) (uN_lt a))] at h
  rw [mQuo]
  exact h
theorem mRem_N (a b : Int64) (hb : 0 < uN b) : uN (mRem a b) = uN a % uN b := by
  have h := (qLp_N a b hb 64 0 0 (Nat.le_refl _) (by rw [show uN 0 = 0 from by decide]; exact hb)).1
  rw [show uN 0 = 0 from by decide, Nat.zero_mul, Nat.zero_add, pw64, Nat.mod_eq_of_lt (uN_lt a)] at h
  rw [mRem]
  exact h
theorem ne0_N {d : Int64} : ¬ d = 0 ↔ 0 < uN d := by
  constructor
  · intro h
    rcases Nat.eq_zero_or_pos (uN d) with q | q
    · exact absurd (uN_inj (q.trans (by decide : (0 : Nat) = uN 0))) h
    · exact q
  · intro h e
    rw [e] at h
    exact absurd h (by decide)
theorem neg_N {d : Int64} : d < 0 ↔ 9223372036854775808 ≤ uN d := by
  have := uN_lt d
  rw [Int64.lt_iff_toInt_lt, uN_int, i64c4]
  split <;> omega
theorem bQuo_N (n d : Int64) (hd : 0 < uN d) : uN (bQuo n d) = uN n / uN d := by
  have hn := uN_lt n
  have hD := uN_lt d
  unfold bQuo
  rw [if_neg (ne0_N.mpr hd)]
  by_cases h1 : d < 0
  · rw [if_pos h1]
    have h1' := neg_N.mp h1
    by_cases h2 : bLt n d
    · rw [if_pos h2, Nat.div_eq_of_lt ((uN_bLt _ _).mp h2)]
      rfl
    · rw [if_neg h2]
      have h2' := mt (uN_bLt _ _).mpr h2
      have : uN n / uN d = 1 := by
        rw [Nat.div_eq_iff hd]
        omega
      rw [this]
      rfl
  · rw [if_neg h1]
    have hdp : uN d < 9223372036854775808 := Nat.not_le.mp (fun z => h1 (neg_N.mpr z))
    by_cases h2 : 0 ≤ n
    · rw [if_pos h2]
      have hnp : uN n < 9223372036854775808 := Nat.not_le.mp (fun z => absurd h2 (Int64.not_le.mpr (neg_N.mpr z)))
      have e : n / d = lN (uN n / uN d) := by
        have := pk_lDiv (a := uN n) (b := uN d) hnp hd hdp
        rw [lN_uN, lN_uN] at this
        exact this
      rw [e, uN_lN (Nat.lt_of_le_of_lt (Nat.div_le_self _ _) hn)]
    · rw [if_neg h2]
      have hh : uN (gUshr n 1) = uN n / 2 := by
        rw [show (1 : Int32) = nI 1 from rfl, uN_gUshr n (by decide), Nat.pow_one]
      have eg : gUshr n 1 / d = lN (uN n / 2 / uN d) := by
        have := pk_lDiv (a := uN n / 2) (b := uN d) (by omega) hd hdp
        rw [← hh, lN_uN, lN_uN, hh] at this
        exact this
      have hle : uN n / 2 / uN d ≤ uN n / 2 := Nat.div_le_self _ _
      have hg : uN (gShl (gUshr n 1 / d) 1) = 2 * (uN n / 2 / uN d) := by
        have := uN_shl (gUshr n 1 / d)
        rw [eg, uN_lN (by omega)] at this
        rw [eg]
        rw [Nat.mod_eq_of_lt (by omega)] at this
        exact this
      generalize hG : gShl (gUshr n 1 / d) 1 = G0 at *
      have hdm := Nat.div_add_mod (uN n / 2) (uN d)
      have hml := Nat.mod_lt (uN n / 2) hd
      have hmul : uN (G0 * d) = 2 * (uN d * (uN n / 2 / uN d)) := by
        rw [uN_mul, hg, Nat.mul_assoc, Nat.mul_comm (uN n / 2 / uN d)]
        exact Nat.mod_eq_of_lt (by omega)
      have hdiff : uN (n - G0 * d) = uN n - 2 * (uN d * (uN n / 2 / uN d)) := by
        rw [uN_sub, hmul]
        omega
      generalize hp : uN d * (uN n / 2 / uN d) = p at *
      generalize hq : uN n / 2 / uN d = q at *
      have hdq : 2 * p = uN d * (2 * q) := by rw [← hp, Nat.mul_left_comm]
      by_cases h3 : bLt (n - G0 * d) d
      · rw [if_pos h3, hg]
        rw [uN_bLt, hdiff] at h3
        refine ((Nat.div_eq_iff hd).mpr ?_).symm
        rw [Nat.mul_comm (2 * q), ← hdq]
        omega
      · rw [if_neg h3]
        rw [uN_bLt, hdiff] at h3
        have e1 : uN (G0 + 1) = 2 * q + 1 := by
          rw [uN_add, hg, show uN 1 = 1 from by decide]
          exact Nat.mod_eq_of_lt (by omega)
        rw [e1]
        refine ((Nat.div_eq_iff hd).mpr ?_).symm
        rw [Nat.mul_comm (2 * q + 1), Nat.mul_add, ← hdq]
        omega
theorem bQuo_eq {n d : Int64} (hd : ¬ d = 0) : bQuo n d = mQuo n d := by
  have h := ne0_N.mp hd
  apply uN_inj
  rw [bQuo_N n d h, mQuo_N n d h]
theorem mRem_eq {n d : Int64} (hd : ¬ d = 0) : n - mQuo n d * d = mRem n d := by
  have h := ne0_N.mp hd
  have hn := uN_lt n
  apply uN_inj
  rw [mRem_N n d h, uN_sub, uN_mul, mQuo_N n d h]
  have e := Nat.div_add_mod (uN n) (uN d)
  rw [Nat.mul_comm] at e
  have hl := Nat.mod_lt (uN n) h
  have hle : uN n / uN d * uN d ≤ uN n := Nat.div_mul_le_self _ _
  rw [Nat.mod_eq_of_lt (a := uN n / uN d * uN d) (by omega)]
  generalize uN n / uN d * uN d = P at *
  omega
