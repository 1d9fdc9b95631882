/-! numbers of a width: the class's Bits, and the reference's statics -/
def bMask (w : Int32) : Int64 := gUshr (-1) (64 - w)
def bSig (w : Int32) (n : Int64) : Int64 := gShr (gShl n (64 - w)) (64 - w)
abbrev bLt (a b : Int64) : Prop := (a ^^^ (-9223372036854775808)) < (b ^^^ (-9223372036854775808))
noncomputable def bI (p : Prop) : Int32 := by
  classical
  exact if p then 1 else 0
theorem bI_t {p : Prop} (h : p) : bI p = 1 := by simp [bI, h]
theorem bI_f {p : Prop} (h : ¬ p) : bI p = 0 := by simp [bI, h]
theorem bI_eq0 {p : Prop} : bI p = 0 ↔ ¬ p := by
  by_cases h : p <;> simp [bI, h]
theorem bI_ne0 {p : Prop} : ¬ bI p = 0 ↔ p := by
  by_cases h : p <;> simp [bI, h]
theorem bI_nar (p : Prop) : narrow .boolean (.int (bI p)) = .int (bI p) := by
  by_cases h : p
  · rw [bI_t h]; rfl
  · rw [bI_f h]; rfl
abbrev isW (w : Int32) : Prop := w = 8 ∨ w = 16 ∨ w = 32 ∨ w = 64
def bHi64 (a b : Int64) : Int64 :=
  gUshr a 32 * gUshr b 32 + gUshr (gUshr a 32 * (b &&& 4294967295) + gUshr ((a &&& 4294967295) * (b &&& 4294967295)) 32) 32 + gUshr ((a &&& 4294967295) * gUshr b 32 + ((gUshr a 32 * (b &&& 4294967295) + gUshr ((a &&& 4294967295) * (b &&& 4294967295)) 32) &&& 4294967295)) 32
def bHiP (w : Int32) (a b : Int64) : Int64 := if w = 64 then bHi64 a b else gUshr (a * b) w
def bHiS (w : Int32) (a b : Int64) : Int64 := if w < 64 then gShr (bSig w a * bSig w b) w &&& bMask w else bHi64 a b - (if a < 0 then b else 0) - (if b < 0 then a else 0)
def mLow (v : Int64) (n : Int32) : Int64 := if n = 64 then v else v &&& (gShl 1 n - 1)
abbrev mUp (v : Int64) (n : Int32) : Prop := gUshr v (n - 1) &&& 1 = 1
def mSig (v : Int64) (n : Int32) : Int64 := if n = 64 then v else gShr (gShl v (64 - n)) (64 - n)
def mHiP (a b : Int64) (n : Int32) : Int64 := if n = 64 then bHi64 a b else gUshr (a * b) n
def mHiS (a b : Int64) (n : Int32) : Int64 := if n < 64 then mLow (gShr (mSig a n * mSig b n) n) n else bHi64 a b - (if a < 0 then b else 0) - (if b < 0 then a else 0)
section CBits
variable {l : Launch} {σ : gH}
theorem c_X2_isWidth (w : Int32) : Ct l mX2_isWidth 1 0 0 [.int w] σ (pI fun r σ' => r = bI (isW w) ∧ σ' = σ) := by
  refine Ct_of moX2_isWidth [some (.int w)] rfl (Nat.le_of_ble_eq_true rfl) ?_
  refine g_iload_n (i := 0) dX2_isWidth_0 rfl rfl ?_
  refine g_bipush (v := 8) dX2_isWidth_1 (by decide) ?_
  refine g_icmp_eq (tgt := 24) dX2_isWidth_3 (by decide) (fun zc3 => ?_) (fun zc3 => ?_)
  · refine g_iconst (v := 1) dX2_isWidth_24 (by decide) ?_
    refine g_goto (tgt := 29) dX2_isWidth_25 (by decide) ?_
    refine g_zret dX2_isWidth_29 rfl (rfl) ?_
    exact ⟨_, rfl, by first | exact (bI_t (by simp [isW, *])).symm | exact (bI_f (by simp [isW, *])).symm, rfl⟩
  · refine g_iload_n (i := 0) dX2_isWidth_6 rfl rfl ?_
    refine g_bipush (v := 16) dX2_isWidth_7 (by decide) ?_
    refine g_icmp_eq (tgt := 24) dX2_isWidth_9 (by decide) (fun zc9 => ?_) (fun zc9 => ?_)
    · refine g_iconst (v := 1) dX2_isWidth_24 (by decide) ?_
      refine g_goto (tgt := 29) dX2_isWidth_25 (by decide) ?_
      refine g_zret dX2_isWidth_29 rfl (rfl) ?_
      exact ⟨_, rfl, by first | exact (bI_t (by simp [isW, *])).symm | exact (bI_f (by simp [isW, *])).symm, rfl⟩
    · refine g_iload_n (i := 0) dX2_isWidth_12 rfl rfl ?_
      refine g_bipush (v := 32) dX2_isWidth_13 (by decide) ?_
      refine g_icmp_eq (tgt := 24) dX2_isWidth_15 (by decide) (fun zc15 => ?_) (fun zc15 => ?_)
      · refine g_iconst (v := 1) dX2_isWidth_24 (by decide) ?_
        refine g_goto (tgt := 29) dX2_isWidth_25 (by decide) ?_
        refine g_zret dX2_isWidth_29 rfl (rfl) ?_
        exact ⟨_, rfl, by first | exact (bI_t (by simp [isW, *])).symm | exact (bI_f (by simp [isW, *])).symm, rfl⟩
      · refine g_iload_n (i := 0) dX2_isWidth_18 rfl rfl ?_
        refine g_bipush (v := 64) dX2_isWidth_19 (by decide) ?_
        refine g_icmp_ne (tgt := 28) dX2_isWidth_21 (by decide) (fun zc21 => ?_) (fun zc21 => ?_)
        · refine g_iconst (v := 0) dX2_isWidth_28 (by decide) ?_
          refine g_zret dX2_isWidth_29 rfl (rfl) ?_
          exact ⟨_, rfl, by first | exact (bI_t (by simp [isW, *])).symm | exact (bI_f (by simp [isW, *])).symm, rfl⟩
        · refine g_iconst (v := 1) dX2_isWidth_24 (by decide) ?_
          refine g_goto (tgt := 29) dX2_isWidth_25 (by decide) ?_
          refine g_zret dX2_isWidth_29 rfl (rfl) ?_
          exact ⟨_, rfl, by first | exact (bI_t (by simp [isW, *])).symm | exact (bI_f (by simp [isW, *])).symm, rfl⟩
theorem c_X2_mask (w : Int32) : Ct l mX2_mask 1 0 0 [.int w] σ (pL fun r σ' => r = bMask w ∧ σ' = σ) := by
  refine Ct_of moX2_mask [some (.int w)] rfl (Nat.le_of_ble_eq_true rfl) ?_
  refine g_ldc2 (v := (-1)) dX2_mask_0 klX2_7 ?_
  refine g_bipush (v := 64) dX2_mask_3 (by decide) ?_
  refine g_iload_n (i := 0) dX2_mask_5 rfl rfl ?_
  refine g_isub dX2_mask_6 ?_
  refine g_lushr dX2_mask_7 ?_
  refine g_lret dX2_mask_8 rfl ?_
  exact ⟨_, rfl, rfl, rfl⟩
theorem c_X2_signedOf (w : Int32) (n : Int64) : Ct l mX2_signedOf 1 0 0 [.int w, .long n] σ (pL fun r σ' => r = bSig w n ∧ σ' = σ) := by
  refine Ct_of moX2_signedOf [some (.int w), some (.long n), none] rfl (Nat.le_of_ble_eq_true rfl) ?_
  refine g_lload_n (i := 1) dX2_signedOf_0 rfl rfl ?_
  refine g_bipush (v := 64) dX2_signedOf_1 (by decide) ?_
  refine g_iload_n (i := 0) dX2_signedOf_3 rfl rfl ?_
  refine g_isub dX2_signedOf_4 ?_
  refine g_lshl dX2_signedOf_5 ?_
  refine g_bipush (v := 64) dX2_signedOf_6 (by decide) ?_
  refine g_iload_n (i := 0) dX2_signedOf_8 rfl rfl ?_
  refine g_isub dX2_signedOf_9 ?_
  refine g_lshr dX2_signedOf_10 ?_
  refine g_lret dX2_signedOf_11 rfl ?_
  exact ⟨_, rfl, rfl, rfl⟩
theorem c_X2_below (a b : Int64) : Ct l mX2_below 1 0 0 [.long a, .long b] σ (pI fun r σ' => r = bI (bLt a b) ∧ σ' = σ) := by
  refine Ct_of moX2_below [some (.long a), none, some (.long b), none] rfl (Nat.le_of_ble_eq_true rfl) ?_
  refine g_lload_n (i := 0) dX2_below_0 rfl rfl ?_
  refine g_ldc2 (v := (-9223372036854775808)) dX2_below_1 klX2_11 ?_
  refine g_lxor dX2_below_4 ?_
  refine g_lload_n (i := 2) dX2_below_5 rfl rfl ?_
  refine g_ldc2 (v := (-9223372036854775808)) dX2_below_6 klX2_11 ?_
  refine g_lxor dX2_below_9 ?_
  refine g_lcmp dX2_below_10 ?_
  refine g_if_ge (tgt := 18) dX2_below_11 (by decide) (fun zc11 => ?_) (fun zc11 => ?_)
  · refine g_iconst (v := 0) dX2_below_18 (by decide) ?_
    refine g_zret dX2_below_19 rfl (rfl) ?_
    exact ⟨_, rfl, by first | exact (bI_t (by simp_all [bLt, lg_cmp_ge, lg_cmp_lt])).symm | exact (bI_f (by simp_all [bLt, lg_cmp_ge, lg_cmp_lt])).symm, rfl⟩
  · refine g_iconst (v := 1) dX2_below_14 (by decide) ?_
    refine g_goto (tgt := 19) dX2_below_15 (by decide) ?_
    refine g_zret dX2_below_19 rfl (rfl) ?_
    exact ⟨_, rfl, by first | exact (bI_t (by simp_all [bLt, lg_cmp_ge, lg_cmp_lt])).symm | exact (bI_f (by simp_all [bLt, lg_cmp_ge, lg_cmp_lt])).symm, rfl⟩
theorem c_X2_highOf64 (a b : Int64) : Ct l mX2_highOf64 1 0 0 [.long a, .long b] σ (pL fun r σ' => r = bHi64 a b ∧ σ' = σ) := by
  refine Ct_of moX2_highOf64 [some (.long a), none, some (.long b), none, none, none, none, none, none, none, none, none, none, none, none, none, none, none] rfl (Nat.le_of_ble_eq_true rfl) ?_
  refine g_ldc2 (v := 4294967295) dX2_highOf64_0 klX2_31 ?_
  refine g_lstore (ls' := [_, _, _, _, _, _, _, _, _, _, _, _, _, _, _, _, _, _]) dX2_highOf64_3 (by decide) rfl rfl ?_
  refine g_lload_n (i := 0) dX2_highOf64_5 rfl rfl ?_
  refine g_lload dX2_highOf64_6 rfl ?_
  refine g_land dX2_highOf64_8 ?_
  refine g_lstore (ls' := [_, _, _, _, _, _, _, _, _, _, _, _, _, _, _, _, _, _]) dX2_highOf64_9 (by decide) rfl rfl ?_
  refine g_lload_n (i := 0) dX2_highOf64_11 rfl rfl ?_
  refine g_bipush (v := 32) dX2_highOf64_12 (by decide) ?_
  refine g_lushr dX2_highOf64_14 ?_
  refine g_lstore (ls' := [_, _, _, _, _, _, _, _, _, _, _, _, _, _, _, _, _, _]) dX2_highOf64_15 (by decide) rfl rfl ?_
  refine g_lload_n (i := 2) dX2_highOf64_17 rfl rfl ?_
  refine g_lload dX2_highOf64_18 rfl ?_
  refine g_land dX2_highOf64_20 ?_
  refine g_lstore (ls' := [_, _, _, _, _, _, _, _, _, _, _, _, _, _, _, _, _, _]) dX2_highOf64_21 (by decide) rfl rfl ?_
  refine g_lload_n (i := 2) dX2_highOf64_23 rfl rfl ?_
  refine g_bipush (v := 32) dX2_highOf64_24 (by decide) ?_
  refine g_lushr dX2_highOf64_26 ?_
  refine g_lstore (ls' := [_, _, _, _, _, _, _, _, _, _, _, _, _, _, _, _, _, _]) dX2_highOf64_27 (by decide) rfl rfl ?_
  refine g_lload dX2_highOf64_29 rfl ?_
  refine g_lload dX2_highOf64_31 rfl ?_
  refine g_lmul dX2_highOf64_33 ?_
  refine g_lload dX2_highOf64_34 rfl ?_
  refine g_lload dX2_highOf64_36 rfl ?_
  refine g_lmul dX2_highOf64_38 ?_
  refine g_bipush (v := 32) dX2_highOf64_39 (by decide) ?_
  refine g_lushr dX2_highOf64_41 ?_
  refine g_ladd dX2_highOf64_42 ?_
  refine g_lstore (ls' := [_, _, _, _, _, _, _, _, _, _, _, _, _, _, _, _, _, _]) dX2_highOf64_43 (by decide) rfl rfl ?_
  refine g_lload dX2_highOf64_45 rfl ?_
  refine g_lload dX2_highOf64_47 rfl ?_
  refine g_lmul dX2_highOf64_49 ?_
  refine g_lload dX2_highOf64_50 rfl ?_
  refine g_lload dX2_highOf64_52 rfl ?_
  refine g_land dX2_highOf64_54 ?_
  refine g_ladd dX2_highOf64_55 ?_
  refine g_lstore (ls' := [_, _, _, _, _, _, _, _, _, _, _, _, _, _, _, _, _, _]) dX2_highOf64_56 (by decide) rfl rfl ?_
  refine g_lload dX2_highOf64_58 rfl ?_
  refine g_lload dX2_highOf64_60 rfl ?_
  refine g_lmul dX2_highOf64_62 ?_
  refine g_lload dX2_highOf64_63 rfl ?_
  refine g_bipush (v := 32) dX2_highOf64_65 (by decide) ?_
  refine g_lushr dX2_highOf64_67 ?_
  refine g_ladd dX2_highOf64_68 ?_
  refine g_lload dX2_highOf64_69 rfl ?_
  refine g_bipush (v := 32) dX2_highOf64_71 (by decide) ?_
  refine g_lushr dX2_highOf64_73 ?_
  refine g_ladd dX2_highOf64_74 ?_
  refine g_lret dX2_highOf64_75 rfl ?_
  exact ⟨_, rfl, rfl, rfl⟩
theorem c_X2_highPlain (w : Int32) (a b : Int64) : Ct l mX2_highPlain 2 0 0 [.int w, .long a, .long b] σ (pL fun r σ' => r = bHiP w a b ∧ σ' = σ) := by
  refine Ct_of moX2_highPlain [some (.int w), some (.long a), none, some (.long b), none] rfl (Nat.le_of_ble_eq_true rfl) ?_
  refine g_iload_n (i := 0) dX2_highPlain_0 rfl rfl ?_
  refine g_bipush (v := 64) dX2_highPlain_1 (by decide) ?_
  refine g_icmp_ne (tgt := 14) dX2_highPlain_3 (by decide) (fun zc3 => ?_) (fun zc3 => ?_)
  · refine g_lload_n (i := 1) dX2_highPlain_14 rfl rfl ?_
    refine g_lload_n (i := 3) dX2_highPlain_15 rfl rfl ?_
    refine g_lmul dX2_highPlain_16 ?_
    refine g_iload_n (i := 0) dX2_highPlain_17 rfl rfl ?_
    refine g_lushr dX2_highPlain_18 ?_
    refine g_lret dX2_highPlain_19 rfl ?_
    exact ⟨_, rfl, by simp [bHiP, *], rfl⟩
  · refine g_lload_n (i := 1) dX2_highPlain_6 rfl rfl ?_
    refine g_lload_n (i := 3) dX2_highPlain_7 rfl rfl ?_
    refine g_callSl (My := mX2_highOf64) [_, _] dX2_highPlain_8 lkX2_19 mvX2_highOf64 rfl (c_X2_highOf64 _ _) (by decide) (by decide) (by decide) rfl (Nat.le_of_ble_eq_true rfl) (fun zr8 σ zh8 => ?_)
    obtain ⟨rfl, rfl⟩ := zh8
    refine g_goto (tgt := 19) dX2_highPlain_11 (by decide) ?_
    refine g_lret dX2_highPlain_19 rfl ?_
    exact ⟨_, rfl, by simp [bHiP, *], rfl⟩
theorem c_X2_highSigned (w : Int32) (a b : Int64) : Ct l mX2_highSigned 2 0 0 [.int w, .long a, .long b] σ (pL fun r σ' => r = bHiS w a b ∧ σ' = σ) := by
  refine Ct_of moX2_highSigned [some (.int w), some (.long a), none, some (.long b), none] rfl (Nat.le_of_ble_eq_true rfl) ?_
  refine g_iload_n (i := 0) dX2_highSigned_0 rfl rfl ?_
  refine g_bipush (v := 64) dX2_highSigned_1 (by decide) ?_
  refine g_icmp_ge (tgt := 25) dX2_highSigned_3 (by decide) (fun zc3 => ?_) (fun zc3 => ?_)
  · refine g_lload_n (i := 1) dX2_highSigned_25 rfl rfl ?_
    refine g_lload_n (i := 3) dX2_highSigned_26 rfl rfl ?_
    refine g_callSl (My := mX2_highOf64) [_, _] dX2_highSigned_27 lkX2_19 mvX2_highOf64 rfl (c_X2_highOf64 _ _) (by decide) (by decide) (by decide) rfl (Nat.le_of_ble_eq_true rfl) (fun zr27 σ zh27 => ?_)
    obtain ⟨rfl, rfl⟩ := zh27
    refine g_lload_n (i := 1) dX2_highSigned_30 rfl rfl ?_
    refine g_lconst (v := 0) dX2_highSigned_31 (by decide) ?_
    refine g_lcmp dX2_highSigned_32 ?_
    refine g_if_ge (tgt := 40) dX2_highSigned_33 (by decide) (fun zc33 => ?_) (fun zc33 => ?_)
    · refine g_lconst (v := 0) dX2_highSigned_40 (by decide) ?_
      refine g_lsub dX2_highSigned_41 ?_
      refine g_lload_n (i := 3) dX2_highSigned_42 rfl rfl ?_
      refine g_lconst (v := 0) dX2_highSigned_43 (by decide) ?_
      refine g_lcmp dX2_highSigned_44 ?_
      refine g_if_ge (tgt := 52) dX2_highSigned_45 (by decide) (fun zc45 => ?_) (fun zc45 => ?_)
      · refine g_lconst (v := 0) dX2_highSigned_52 (by decide) ?_
        refine g_lsub dX2_highSigned_53 ?_
        refine g_lret dX2_highSigned_54 rfl ?_
        refine ⟨_, rfl, ?_, rfl⟩
        unfold bHiS
        (repeat' split) <;> first | rfl | (exfalso; (try simp only [lg_cmp_ge, lg_cmp_lt] at *); simp only [Int32.lt_iff_toInt_lt, Int32.le_iff_toInt_le, Int64.lt_iff_toInt_lt, Int64.le_iff_toInt_le] at *; omega)
      · refine g_lload_n (i := 1) dX2_highSigned_48 rfl rfl ?_
        refine g_goto (tgt := 53) dX2_highSigned_49 (by decide) ?_
        refine g_lsub dX2_highSigned_53 ?_
        refine g_lret dX2_highSigned_54 rfl ?_
        refine ⟨_, rfl, ?_, rfl⟩
        unfold bHiS
        (repeat' split) <;> first | rfl | (exfalso; (try simp only [lg_cmp_ge, lg_cmp_lt] at *); simp only [Int32.lt_iff_toInt_lt, Int32.le_iff_toInt_le, Int64.lt_iff_toInt_lt, Int64.le_iff_toInt_le] at *; omega)
    · refine g_lload_n (i := 3) dX2_highSigned_36 rfl rfl ?_
      refine g_goto (tgt := 41) dX2_highSigned_37 (by decide) ?_
      refine g_lsub dX2_highSigned_41 ?_
      refine g_lload_n (i := 3) dX2_highSigned_42 rfl rfl ?_
      refine g_lconst (v := 0) dX2_highSigned_43 (by decide) ?_
      refine g_lcmp dX2_highSigned_44 ?_
      refine g_if_ge (tgt := 52) dX2_highSigned_45 (by decide) (fun zc45 => ?_) (fun zc45 => ?_)
      · refine g_lconst (v := 0) dX2_highSigned_52 (by decide) ?_
        refine g_lsub dX2_highSigned_53 ?_
        refine g_lret dX2_highSigned_54 rfl ?_
        refine ⟨_, rfl, ?_, rfl⟩
        unfold bHiS
        (repeat' split) <;> first | rfl | (exfalso; (try simp only [lg_cmp_ge, lg_cmp_lt] at *); simp only [Int32.lt_iff_toInt_lt, Int32.le_iff_toInt_le, Int64.lt_iff_toInt_lt, Int64.le_iff_toInt_le] at *; omega)
      · refine g_lload_n (i := 1) dX2_highSigned_48 rfl rfl ?_
        refine g_goto (tgt := 53) dX2_highSigned_49 (by decide) ?_
        refine g_lsub dX2_highSigned_53 ?_
        refine g_lret dX2_highSigned_54 rfl ?_
        refine ⟨_, rfl, ?_, rfl⟩
        unfold bHiS
        (repeat' split) <;> first | rfl | (exfalso; (try simp only [lg_cmp_ge, lg_cmp_lt] at *); simp only [Int32.lt_iff_toInt_lt, Int32.le_iff_toInt_le, Int64.lt_iff_toInt_lt, Int64.le_iff_toInt_le] at *; omega)
  · refine g_iload_n (i := 0) dX2_highSigned_6 rfl rfl ?_
    refine g_lload_n (i := 1) dX2_highSigned_7 rfl rfl ?_
    refine g_callSl (My := mX2_signedOf) [_, _] dX2_highSigned_8 lkX2_23 mvX2_signedOf rfl (c_X2_signedOf _ _) (by decide) (by decide) (by decide) rfl (Nat.le_of_ble_eq_true rfl) (fun zr8 σ zh8 => ?_)
    obtain ⟨rfl, rfl⟩ := zh8
    refine g_iload_n (i := 0) dX2_highSigned_11 rfl rfl ?_
    refine g_lload_n (i := 3) dX2_highSigned_12 rfl rfl ?_
    refine g_callSl (My := mX2_signedOf) [_, _] dX2_highSigned_13 lkX2_23 mvX2_signedOf rfl (c_X2_signedOf _ _) (by decide) (by decide) (by decide) rfl (Nat.le_of_ble_eq_true rfl) (fun zr13 σ zh13 => ?_)
    obtain ⟨rfl, rfl⟩ := zh13
    refine g_lmul dX2_highSigned_16 ?_
    refine g_iload_n (i := 0) dX2_highSigned_17 rfl rfl ?_
    refine g_lshr dX2_highSigned_18 ?_
    refine g_iload_n (i := 0) dX2_highSigned_19 rfl rfl ?_
    refine g_callSl (My := mX2_mask) [_] dX2_highSigned_20 lkX2_27 mvX2_mask rfl (c_X2_mask _) (by decide) (by decide) (by decide) rfl (Nat.le_of_ble_eq_true rfl) (fun zr20 σ zh20 => ?_)
    obtain ⟨rfl, rfl⟩ := zh20
    refine g_land dX2_highSigned_23 ?_
    refine g_lret dX2_highSigned_24 rfl ?_
    refine ⟨_, rfl, ?_, rfl⟩
    unfold bHiS
    (repeat' split) <;> first | rfl | (exfalso; (try simp only [lg_cmp_ge, lg_cmp_lt] at *); simp only [Int32.lt_iff_toInt_lt, Int32.le_iff_toInt_le, Int64.lt_iff_toInt_lt, Int64.le_iff_toInt_le] at *; omega)
theorem c_X6_takesOperand (k : Int32) : Ct l mX6_takesOperand 1 0 0 [.int k] σ (pI fun r σ' => r = bI (k = 5 ∨ k = 6 ∨ k = 8 ∨ k = 12) ∧ σ' = σ) := by
  refine Ct_of moX6_takesOperand [some (.int k)] rfl (Nat.le_of_ble_eq_true rfl) ?_
  refine g_iload_n (i := 0) dX6_takesOperand_0 rfl rfl ?_
  refine g_iconst (v := 5) dX6_takesOperand_1 (by decide) ?_
  refine g_icmp_eq (tgt := 23) dX6_takesOperand_2 (by decide) (fun zc2 => ?_) (fun zc2 => ?_)
  · refine g_iconst (v := 1) dX6_takesOperand_23 (by decide) ?_
    refine g_goto (tgt := 28) dX6_takesOperand_24 (by decide) ?_
    refine g_zret dX6_takesOperand_28 rfl (rfl) ?_
    exact ⟨_, rfl, by first | exact (bI_t (by simp [*])).symm | exact (bI_f (by simp [*])).symm, rfl⟩
  · refine g_iload_n (i := 0) dX6_takesOperand_5 rfl rfl ?_
    refine g_bipush (v := 6) dX6_takesOperand_6 (by decide) ?_
    refine g_icmp_eq (tgt := 23) dX6_takesOperand_8 (by decide) (fun zc8 => ?_) (fun zc8 => ?_)
    · refine g_iconst (v := 1) dX6_takesOperand_23 (by decide) ?_
      refine g_goto (tgt := 28) dX6_takesOperand_24 (by decide) ?_
      refine g_zret dX6_takesOperand_28 rfl (rfl) ?_
      exact ⟨_, rfl, by first | exact (bI_t (by simp [*])).symm | exact (bI_f (by simp [*])).symm, rfl⟩
    · refine g_iload_n (i := 0) dX6_takesOperand_11 rfl rfl ?_
      refine g_bipush (v := 8) dX6_takesOperand_12 (by decide) ?_
      refine g_icmp_eq (tgt := 23) dX6_takesOperand_14 (by decide) (fun zc14 => ?_) (fun zc14 => ?_)
      · refine g_iconst (v := 1) dX6_takesOperand_23 (by decide) ?_
        refine g_goto (tgt := 28) dX6_takesOperand_24 (by decide) ?_
        refine g_zret dX6_takesOperand_28 rfl (rfl) ?_
        exact ⟨_, rfl, by first | exact (bI_t (by simp [*])).symm | exact (bI_f (by simp [*])).symm, rfl⟩
      · refine g_iload_n (i := 0) dX6_takesOperand_17 rfl rfl ?_
        refine g_bipush (v := 12) dX6_takesOperand_18 (by decide) ?_
        refine g_icmp_ne (tgt := 27) dX6_takesOperand_20 (by decide) (fun zc20 => ?_) (fun zc20 => ?_)
        · refine g_iconst (v := 0) dX6_takesOperand_27 (by decide) ?_
          refine g_zret dX6_takesOperand_28 rfl (rfl) ?_
          exact ⟨_, rfl, by first | exact (bI_t (by simp [*])).symm | exact (bI_f (by simp [*])).symm, rfl⟩
        · refine g_iconst (v := 1) dX6_takesOperand_23 (by decide) ?_
          refine g_goto (tgt := 28) dX6_takesOperand_24 (by decide) ?_
          refine g_zret dX6_takesOperand_28 rfl (rfl) ?_
          exact ⟨_, rfl, by first | exact (bI_t (by simp [*])).symm | exact (bI_f (by simp [*])).symm, rfl⟩
theorem c_X6_takesCount (k : Int32) : Ct l mX6_takesCount 1 0 0 [.int k] σ (pI fun r σ' => r = bI (k = 0 ∨ k = 1 ∨ k = 10) ∧ σ' = σ) := by
  refine Ct_of moX6_takesCount [some (.int k)] rfl (Nat.le_of_ble_eq_true rfl) ?_
  refine g_iload_n (i := 0) dX6_takesCount_0 rfl rfl ?_
  refine g_if_eq (tgt := 15) dX6_takesCount_1 (by decide) (fun zc1 => ?_) (fun zc1 => ?_)
  · refine g_iconst (v := 1) dX6_takesCount_15 (by decide) ?_
    refine g_goto (tgt := 20) dX6_takesCount_16 (by decide) ?_
    refine g_zret dX6_takesCount_20 rfl (rfl) ?_
    exact ⟨_, rfl, by first | exact (bI_t (by simp [*])).symm | exact (bI_f (by simp [*])).symm, rfl⟩
  · refine g_iload_n (i := 0) dX6_takesCount_4 rfl rfl ?_
    refine g_iconst (v := 1) dX6_takesCount_5 (by decide) ?_
    refine g_icmp_eq (tgt := 15) dX6_takesCount_6 (by decide) (fun zc6 => ?_) (fun zc6 => ?_)
    · refine g_iconst (v := 1) dX6_takesCount_15 (by decide) ?_
      refine g_goto (tgt := 20) dX6_takesCount_16 (by decide) ?_
      refine g_zret dX6_takesCount_20 rfl (rfl) ?_
      exact ⟨_, rfl, by first | exact (bI_t (by simp [*])).symm | exact (bI_f (by simp [*])).symm, rfl⟩
    · refine g_iload_n (i := 0) dX6_takesCount_9 rfl rfl ?_
      refine g_bipush (v := 10) dX6_takesCount_10 (by decide) ?_
      refine g_icmp_ne (tgt := 19) dX6_takesCount_12 (by decide) (fun zc12 => ?_) (fun zc12 => ?_)
      · refine g_iconst (v := 0) dX6_takesCount_19 (by decide) ?_
        refine g_zret dX6_takesCount_20 rfl (rfl) ?_
        exact ⟨_, rfl, by first | exact (bI_t (by simp [*])).symm | exact (bI_f (by simp [*])).symm, rfl⟩
      · refine g_iconst (v := 1) dX6_takesCount_15 (by decide) ?_
        refine g_goto (tgt := 20) dX6_takesCount_16 (by decide) ?_
        refine g_zret dX6_takesCount_20 rfl (rfl) ?_
        exact ⟨_, rfl, by first | exact (bI_t (by simp [*])).symm | exact (bI_f (by simp [*])).symm, rfl⟩
theorem c_X11_isWidth (w : Int32) : Ct l mX11_isWidth 1 0 0 [.int w] σ (pI fun r σ' => r = bI (isW w) ∧ σ' = σ) := by
  refine Ct_of moX11_isWidth [some (.int w)] rfl (Nat.le_of_ble_eq_true rfl) ?_
  refine g_iload_n (i := 0) dX11_isWidth_0 rfl rfl ?_
  refine g_bipush (v := 8) dX11_isWidth_1 (by decide) ?_
  refine g_icmp_eq (tgt := 24) dX11_isWidth_3 (by decide) (fun zc3 => ?_) (fun zc3 => ?_)
  · refine g_iconst (v := 1) dX11_isWidth_24 (by decide) ?_
    refine g_goto (tgt := 29) dX11_isWidth_25 (by decide) ?_
    refine g_zret dX11_isWidth_29 rfl (rfl) ?_
    exact ⟨_, rfl, by first | exact (bI_t (by simp [isW, *])).symm | exact (bI_f (by simp [isW, *])).symm, rfl⟩
  · refine g_iload_n (i := 0) dX11_isWidth_6 rfl rfl ?_
    refine g_bipush (v := 16) dX11_isWidth_7 (by decide) ?_
    refine g_icmp_eq (tgt := 24) dX11_isWidth_9 (by decide) (fun zc9 => ?_) (fun zc9 => ?_)
    · refine g_iconst (v := 1) dX11_isWidth_24 (by decide) ?_
      refine g_goto (tgt := 29) dX11_isWidth_25 (by decide) ?_
      refine g_zret dX11_isWidth_29 rfl (rfl) ?_
      exact ⟨_, rfl, by first | exact (bI_t (by simp [isW, *])).symm | exact (bI_f (by simp [isW, *])).symm, rfl⟩
    · refine g_iload_n (i := 0) dX11_isWidth_12 rfl rfl ?_
      refine g_bipush (v := 32) dX11_isWidth_13 (by decide) ?_
      refine g_icmp_eq (tgt := 24) dX11_isWidth_15 (by decide) (fun zc15 => ?_) (fun zc15 => ?_)
      · refine g_iconst (v := 1) dX11_isWidth_24 (by decide) ?_
        refine g_goto (tgt := 29) dX11_isWidth_25 (by decide) ?_
        refine g_zret dX11_isWidth_29 rfl (rfl) ?_
        exact ⟨_, rfl, by first | exact (bI_t (by simp [isW, *])).symm | exact (bI_f (by simp [isW, *])).symm, rfl⟩
      · refine g_iload_n (i := 0) dX11_isWidth_18 rfl rfl ?_
        refine g_bipush (v := 64) dX11_isWidth_19 (by decide) ?_
        refine g_icmp_ne (tgt := 28) dX11_isWidth_21 (by decide) (fun zc21 => ?_) (fun zc21 => ?_)
        · refine g_iconst (v := 0) dX11_isWidth_28 (by decide) ?_
          refine g_zret dX11_isWidth_29 rfl (rfl) ?_
          exact ⟨_, rfl, by first | exact (bI_t (by simp [isW, *])).symm | exact (bI_f (by simp [isW, *])).symm, rfl⟩
        · refine g_iconst (v := 1) dX11_isWidth_24 (by decide) ?_
          refine g_goto (tgt := 29) dX11_isWidth_25 (by decide) ?_
          refine g_zret dX11_isWidth_29 rfl (rfl) ?_
          exact ⟨_, rfl, by first | exact (bI_t (by simp [isW, *])).symm | exact (bI_f (by simp [isW, *])).symm, rfl⟩
theorem c_X11_low (v : Int64) (n : Int32) : Ct l mX11_low 1 0 0 [.long v, .int n] σ (pL fun r σ' => r = mLow v n ∧ σ' = σ) := by
  refine Ct_of moX11_low [some (.long v), none, some (.int n)] rfl (Nat.le_of_ble_eq_true rfl) ?_
  refine g_iload_n (i := 2) dX11_low_0 rfl rfl ?_
  refine g_bipush (v := 64) dX11_low_1 (by decide) ?_
  refine g_icmp_ne (tgt := 10) dX11_low_3 (by decide) (fun zc3 => ?_) (fun zc3 => ?_)
  · refine g_lload_n (i := 0) dX11_low_10 rfl rfl ?_
    refine g_lconst (v := 1) dX11_low_11 (by decide) ?_
    refine g_iload_n (i := 2) dX11_low_12 rfl rfl ?_
    refine g_lshl dX11_low_13 ?_
    refine g_lconst (v := 1) dX11_low_14 (by decide) ?_
    refine g_lsub dX11_low_15 ?_
    refine g_land dX11_low_16 ?_
    refine g_lret dX11_low_17 rfl ?_
    exact ⟨_, rfl, by simp [mLow, *], rfl⟩
  · refine g_lload_n (i := 0) dX11_low_6 rfl rfl ?_
    refine g_goto (tgt := 17) dX11_low_7 (by decide) ?_
    refine g_lret dX11_low_17 rfl ?_
    exact ⟨_, rfl, by simp [mLow, *], rfl⟩
theorem c_X11_isUp (v : Int64) (n : Int32) : Ct l mX11_isUp 1 0 0 [.long v, .int n] σ (pI fun r σ' => r = bI (mUp v n) ∧ σ' = σ) := by
  refine Ct_of moX11_isUp [some (.long v), none, some (.int n)] rfl (Nat.le_of_ble_eq_true rfl) ?_
  refine g_lload_n (i := 0) dX11_isUp_0 rfl rfl ?_
  refine g_iload_n (i := 2) dX11_isUp_1 rfl rfl ?_
  refine g_iconst (v := 1) dX11_isUp_2 (by decide) ?_
  refine g_isub dX11_isUp_3 ?_
  refine g_lushr dX11_isUp_4 ?_
  refine g_lconst (v := 1) dX11_isUp_5 (by decide) ?_
  refine g_land dX11_isUp_6 ?_
  refine g_lconst (v := 1) dX11_isUp_7 (by decide) ?_
  refine g_lcmp dX11_isUp_8 ?_
  refine g_if_ne (tgt := 16) dX11_isUp_9 (by decide) (fun zc9 => ?_) (fun zc9 => ?_)
  · refine g_iconst (v := 0) dX11_isUp_16 (by decide) ?_
    refine g_zret dX11_isUp_17 rfl (rfl) ?_
    exact ⟨_, rfl, by first | exact (bI_t (by simp_all [mUp, lg_cmp_eq])).symm | exact (bI_f (by simp_all [mUp, lg_cmp_eq])).symm, rfl⟩
  · refine g_iconst (v := 1) dX11_isUp_12 (by decide) ?_
    refine g_goto (tgt := 17) dX11_isUp_13 (by decide) ?_
    refine g_zret dX11_isUp_17 rfl (rfl) ?_
    exact ⟨_, rfl, by first | exact (bI_t (by simp_all [mUp, lg_cmp_eq])).symm | exact (bI_f (by simp_all [mUp, lg_cmp_eq])).symm, rfl⟩
theorem c_X11_signed (v : Int64) (n : Int32) : Ct l mX11_signed 1 0 0 [.long v, .int n] σ (pL fun r σ' => r = mSig v n ∧ σ' = σ) := by
  refine Ct_of moX11_signed [some (.long v), none, some (.int n)] rfl (Nat.le_of_ble_eq_true rfl) ?_
  refine g_iload_n (i := 2) dX11_signed_0 rfl rfl ?_
  refine g_bipush (v := 64) dX11_signed_1 (by decide) ?_
  refine g_icmp_ne (tgt := 10) dX11_signed_3 (by decide) (fun zc3 => ?_) (fun zc3 => ?_)
  · refine g_lload_n (i := 0) dX11_signed_10 rfl rfl ?_
    refine g_bipush (v := 64) dX11_signed_11 (by decide) ?_
    refine g_iload_n (i := 2) dX11_signed_13 rfl rfl ?_
    refine g_isub dX11_signed_14 ?_
    refine g_lshl dX11_signed_15 ?_
    refine g_bipush (v := 64) dX11_signed_16 (by decide) ?_
    refine g_iload_n (i := 2) dX11_signed_18 rfl rfl ?_
    refine g_isub dX11_signed_19 ?_
    refine g_lshr dX11_signed_20 ?_
    refine g_lret dX11_signed_21 rfl ?_
    exact ⟨_, rfl, by simp [mSig, *], rfl⟩
  · refine g_lload_n (i := 0) dX11_signed_6 rfl rfl ?_
    refine g_goto (tgt := 21) dX11_signed_7 (by decide) ?_
    refine g_lret dX11_signed_21 rfl ?_
    exact ⟨_, rfl, by simp [mSig, *], rfl⟩
theorem c_X11_isUnder (a b : Int64) : Ct l mX11_isUnder 1 0 0 [.long a, .long b] σ (pI fun r σ' => r = bI (bLt a b) ∧ σ' = σ) := by
  refine Ct_of moX11_isUnder [some (.long a), none, some (.long b), none] rfl (Nat.le_of_ble_eq_true rfl) ?_
  refine g_lload_n (i := 0) dX11_isUnder_0 rfl rfl ?_
  refine g_ldc2 (v := (-9223372036854775808)) dX11_isUnder_1 klX11_93 ?_
  refine g_lxor dX11_isUnder_4 ?_
  refine g_lload_n (i := 2) dX11_isUnder_5 rfl rfl ?_
  refine g_ldc2 (v := (-9223372036854775808)) dX11_isUnder_6 klX11_93 ?_
  refine g_lxor dX11_isUnder_9 ?_
  refine g_lcmp dX11_isUnder_10 ?_
  refine g_if_ge (tgt := 18) dX11_isUnder_11 (by decide) (fun zc11 => ?_) (fun zc11 => ?_)
  · refine g_iconst (v := 0) dX11_isUnder_18 (by decide) ?_
    refine g_zret dX11_isUnder_19 rfl (rfl) ?_
    exact ⟨_, rfl, by first | exact (bI_t (by simp_all [bLt, lg_cmp_ge, lg_cmp_lt])).symm | exact (bI_f (by simp_all [bLt, lg_cmp_ge, lg_cmp_lt])).symm, rfl⟩
  · refine g_iconst (v := 1) dX11_isUnder_14 (by decide) ?_
    refine g_goto (tgt := 19) dX11_isUnder_15 (by decide) ?_
    refine g_zret dX11_isUnder_19 rfl (rfl) ?_
    exact ⟨_, rfl, by first | exact (bI_t (by simp_all [bLt, lg_cmp_ge, lg_cmp_lt])).symm | exact (bI_f (by simp_all [bLt, lg_cmp_ge, lg_cmp_lt])).symm, rfl⟩
theorem c_X11_upper (a b : Int64) : Ct l mX11_upper 1 0 0 [.long a, .long b] σ (pL fun r σ' => r = bHi64 a b ∧ σ' = σ) := by
  refine Ct_of moX11_upper [some (.long a), none, some (.long b), none, none, none, none, none, none, none, none, none, none, none, none, none] rfl (Nat.le_of_ble_eq_true rfl) ?_
  refine g_lload_n (i := 0) dX11_upper_0 rfl rfl ?_
  refine g_ldc2 (v := 4294967295) dX11_upper_1 klX11_95 ?_
  refine g_land dX11_upper_4 ?_
  refine g_lstore (ls' := [_, _, _, _, _, _, _, _, _, _, _, _, _, _, _, _]) dX11_upper_5 (by decide) rfl rfl ?_
  refine g_lload_n (i := 0) dX11_upper_7 rfl rfl ?_
  refine g_bipush (v := 32) dX11_upper_8 (by decide) ?_
  refine g_lushr dX11_upper_10 ?_
  refine g_lstore (ls' := [_, _, _, _, _, _, _, _, _, _, _, _, _, _, _, _]) dX11_upper_11 (by decide) rfl rfl ?_
  refine g_lload_n (i := 2) dX11_upper_13 rfl rfl ?_
  refine g_ldc2 (v := 4294967295) dX11_upper_14 klX11_95 ?_
  refine g_land dX11_upper_17 ?_
  refine g_lstore (ls' := [_, _, _, _, _, _, _, _, _, _, _, _, _, _, _, _]) dX11_upper_18 (by decide) rfl rfl ?_
  refine g_lload_n (i := 2) dX11_upper_20 rfl rfl ?_
  refine g_bipush (v := 32) dX11_upper_21 (by decide) ?_
  refine g_lushr dX11_upper_23 ?_
  refine g_lstore (ls' := [_, _, _, _, _, _, _, _, _, _, _, _, _, _, _, _]) dX11_upper_24 (by decide) rfl rfl ?_
  refine g_lload dX11_upper_26 rfl ?_
  refine g_lload dX11_upper_28 rfl ?_
  refine g_lmul dX11_upper_30 ?_
  refine g_lload dX11_upper_31 rfl ?_
  refine g_lload dX11_upper_33 rfl ?_
  refine g_lmul dX11_upper_35 ?_
  refine g_bipush (v := 32) dX11_upper_36 (by decide) ?_
  refine g_lushr dX11_upper_38 ?_
  refine g_ladd dX11_upper_39 ?_
  refine g_lstore (ls' := [_, _, _, _, _, _, _, _, _, _, _, _, _, _, _, _]) dX11_upper_40 (by decide) rfl rfl ?_
  refine g_lload dX11_upper_42 rfl ?_
  refine g_lload dX11_upper_44 rfl ?_
  refine g_lmul dX11_upper_46 ?_
  refine g_lload dX11_upper_47 rfl ?_
  refine g_ldc2 (v := 4294967295) dX11_upper_49 klX11_95 ?_
  refine g_land dX11_upper_52 ?_
  refine g_ladd dX11_upper_53 ?_
  refine g_lstore (ls' := [_, _, _, _, _, _, _, _, _, _, _, _, _, _, _, _]) dX11_upper_54 (by decide) rfl rfl ?_
  refine g_lload dX11_upper_56 rfl ?_
  refine g_lload dX11_upper_58 rfl ?_
  refine g_lmul dX11_upper_60 ?_
  refine g_lload dX11_upper_61 rfl ?_
  refine g_bipush (v := 32) dX11_upper_63 (by decide) ?_
  refine g_lushr dX11_upper_65 ?_
  refine g_ladd dX11_upper_66 ?_
  refine g_lload dX11_upper_67 rfl ?_
  refine g_bipush (v := 32) dX11_upper_69 (by decide) ?_
  refine g_lushr dX11_upper_71 ?_
  refine g_ladd dX11_upper_72 ?_
  refine g_lret dX11_upper_73 rfl ?_
  exact ⟨_, rfl, rfl, rfl⟩
theorem c_X11_upperPlain (a b : Int64) (n : Int32) : Ct l mX11_upperPlain 2 0 0 [.long a, .long b, .int n] σ (pL fun r σ' => r = mHiP a b n ∧ σ' = σ) := by
  refine Ct_of moX11_upperPlain [some (.long a), none, some (.long b), none, some (.int n)] rfl (Nat.le_of_ble_eq_true rfl) ?_
  refine g_iload dX11_upperPlain_0 rfl ?_
  refine g_bipush (v := 64) dX11_upperPlain_2 (by decide) ?_
  refine g_icmp_ne (tgt := 15) dX11_upperPlain_4 (by decide) (fun zc4 => ?_) (fun zc4 => ?_)
  · refine g_lload_n (i := 0) dX11_upperPlain_15 rfl rfl ?_
    refine g_lload_n (i := 2) dX11_upperPlain_16 rfl rfl ?_
    refine g_lmul dX11_upperPlain_17 ?_
    refine g_iload dX11_upperPlain_18 rfl ?_
    refine g_lushr dX11_upperPlain_20 ?_
    refine g_lret dX11_upperPlain_21 rfl ?_
    exact ⟨_, rfl, by simp [mHiP, *], rfl⟩
  · refine g_lload_n (i := 0) dX11_upperPlain_7 rfl rfl ?_
    refine g_lload_n (i := 2) dX11_upperPlain_8 rfl rfl ?_
    refine g_callSl (My := mX11_upper) [_, _] dX11_upperPlain_9 lkX11_97 mvX11_upper rfl (c_X11_upper _ _) (by decide) (by decide) (by decide) rfl (Nat.le_of_ble_eq_true rfl) (fun zr9 σ zh9 => ?_)
    obtain ⟨rfl, rfl⟩ := zh9
    refine g_goto (tgt := 21) dX11_upperPlain_12 (by decide) ?_
    refine g_lret dX11_upperPlain_21 rfl ?_
    exact ⟨_, rfl, by simp [mHiP, *], rfl⟩
theorem c_X11_upperSigned (a b : Int64) (n : Int32) : Ct l mX11_upperSigned 2 0 0 [.long a, .long b, .int n] σ (pL fun r σ' => r = mHiS a b n ∧ σ' = σ) := by
  refine Ct_of moX11_upperSigned [some (.long a), none, some (.long b), none, some (.int n)] rfl (Nat.le_of_ble_eq_true rfl) ?_
  refine g_iload dX11_upperSigned_0 rfl ?_
  refine g_bipush (v := 64) dX11_upperSigned_2 (by decide) ?_
  refine g_icmp_ge (tgt := 29) dX11_upperSigned_4 (by decide) (fun zc4 => ?_) (fun zc4 => ?_)
  · refine g_lload_n (i := 0) dX11_upperSigned_29 rfl rfl ?_
    refine g_lload_n (i := 2) dX11_upperSigned_30 rfl rfl ?_
    refine g_callSl (My := mX11_upper) [_, _] dX11_upperSigned_31 lkX11_97 mvX11_upper rfl (c_X11_upper _ _) (by decide) (by decide) (by decide) rfl (Nat.le_of_ble_eq_true rfl) (fun zr31 σ zh31 => ?_)
    obtain ⟨rfl, rfl⟩ := zh31
    refine g_lload_n (i := 0) dX11_upperSigned_34 rfl rfl ?_
    refine g_lconst (v := 0) dX11_upperSigned_35 (by decide) ?_
    refine g_lcmp dX11_upperSigned_36 ?_
    refine g_if_ge (tgt := 44) dX11_upperSigned_37 (by decide) (fun zc37 => ?_) (fun zc37 => ?_)
    · refine g_lconst (v := 0) dX11_upperSigned_44 (by decide) ?_
      refine g_lsub dX11_upperSigned_45 ?_
      refine g_lload_n (i := 2) dX11_upperSigned_46 rfl rfl ?_
      refine g_lconst (v := 0) dX11_upperSigned_47 (by decide) ?_
      refine g_lcmp dX11_upperSigned_48 ?_
      refine g_if_ge (tgt := 56) dX11_upperSigned_49 (by decide) (fun zc49 => ?_) (fun zc49 => ?_)
      · refine g_lconst (v := 0) dX11_upperSigned_56 (by decide) ?_
        refine g_lsub dX11_upperSigned_57 ?_
        refine g_lret dX11_upperSigned_58 rfl ?_
        refine ⟨_, rfl, ?_, rfl⟩
        unfold mHiS
        (repeat' split) <;> first | rfl | (exfalso; (try simp only [lg_cmp_ge, lg_cmp_lt] at *); simp only [Int32.lt_iff_toInt_lt, Int32.le_iff_toInt_le, Int64.lt_iff_toInt_lt, Int64.le_iff_toInt_le] at *; omega)
      · refine g_lload_n (i := 0) dX11_upperSigned_52 rfl rfl ?_
        refine g_goto (tgt := 57) dX11_upperSigned_53 (by decide) ?_
        refine g_lsub dX11_upperSigned_57 ?_
        refine g_lret dX11_upperSigned_58 rfl ?_
        refine ⟨_, rfl, ?_, rfl⟩
        unfold mHiS
        (repeat' split) <;> first | rfl | (exfalso; (try simp only [lg_cmp_ge, lg_cmp_lt] at *); simp only [Int32.lt_iff_toInt_lt, Int32.le_iff_toInt_le, Int64.lt_iff_toInt_lt, Int64.le_iff_toInt_le] at *; omega)
    · refine g_lload_n (i := 2) dX11_upperSigned_40 rfl rfl ?_
      refine g_goto (tgt := 45) dX11_upperSigned_41 (by decide) ?_
      refine g_lsub dX11_upperSigned_45 ?_
      refine g_lload_n (i := 2) dX11_upperSigned_46 rfl rfl ?_
      refine g_lconst (v := 0) dX11_upperSigned_47 (by decide) ?_
      refine g_lcmp dX11_upperSigned_48 ?_
      refine g_if_ge (tgt := 56) dX11_upperSigned_49 (by decide) (fun zc49 => ?_) (fun zc49 => ?_)
      · refine g_lconst (v := 0) dX11_upperSigned_56 (by decide) ?_
        refine g_lsub dX11_upperSigned_57 ?_
        refine g_lret dX11_upperSigned_58 rfl ?_
        refine ⟨_, rfl, ?_, rfl⟩
        unfold mHiS
        (repeat' split) <;> first | rfl | (exfalso; (try simp only [lg_cmp_ge, lg_cmp_lt] at *); simp only [Int32.lt_iff_toInt_lt, Int32.le_iff_toInt_le, Int64.lt_iff_toInt_lt, Int64.le_iff_toInt_le] at *; omega)
      · refine g_lload_n (i := 0) dX11_upperSigned_52 rfl rfl ?_
        refine g_goto (tgt := 57) dX11_upperSigned_53 (by decide) ?_
        refine g_lsub dX11_upperSigned_57 ?_
        refine g_lret dX11_upperSigned_58 rfl ?_
        refine ⟨_, rfl, ?_, rfl⟩
        unfold mHiS
        (repeat' split) <;> first | rfl | (exfalso; (try simp only [lg_cmp_ge, lg_cmp_lt] at *); simp only [Int32.lt_iff_toInt_lt, Int32.le_iff_toInt_le, Int64.lt_iff_toInt_lt, Int64.le_iff_toInt_le] at *; omega)
  · refine g_lload_n (i := 0) dX11_upperSigned_7 rfl rfl ?_
    refine g_iload dX11_upperSigned_8 rfl ?_
    refine g_callSl (My := mX11_signed) [_, _] dX11_upperSigned_10 lkX11_101 mvX11_signed rfl (c_X11_signed _ _) (by decide) (by decide) (by decide) rfl (Nat.le_of_ble_eq_true rfl) (fun zr10 σ zh10 => ?_)
    obtain ⟨rfl, rfl⟩ := zh10
    refine g_lload_n (i := 2) dX11_upperSigned_13 rfl rfl ?_
    refine g_iload dX11_upperSigned_14 rfl ?_
    refine g_callSl (My := mX11_signed) [_, _] dX11_upperSigned_16 lkX11_101 mvX11_signed rfl (c_X11_signed _ _) (by decide) (by decide) (by decide) rfl (Nat.le_of_ble_eq_true rfl) (fun zr16 σ zh16 => ?_)
    obtain ⟨rfl, rfl⟩ := zh16
    refine g_lmul dX11_upperSigned_19 ?_
    refine g_iload dX11_upperSigned_20 rfl ?_
    refine g_lshr dX11_upperSigned_22 ?_
    refine g_iload dX11_upperSigned_23 rfl ?_
    refine g_callSl (My := mX11_low) [_, _] dX11_upperSigned_25 lkX11_105 mvX11_low rfl (c_X11_low _ _) (by decide) (by decide) (by decide) rfl (Nat.le_of_ble_eq_true rfl) (fun zr25 σ zh25 => ?_)
    obtain ⟨rfl, rfl⟩ := zh25
    refine g_lret dX11_upperSigned_28 rfl ?_
    refine ⟨_, rfl, ?_, rfl⟩
    unfold mHiS
    (repeat' split) <;> first | rfl | (exfalso; (try simp only [lg_cmp_ge, lg_cmp_lt] at *); simp only [Int32.lt_iff_toInt_lt, Int32.le_iff_toInt_le, Int64.lt_iff_toInt_lt, Int64.le_iff_toInt_le] at *; omega)
theorem c_X11_takesOperand (k : Int32) : Ct l mX11_takesOperand 1 0 0 [.int k] σ (pI fun r σ' => r = bI (k = 5 ∨ k = 6 ∨ k = 8 ∨ k = 12) ∧ σ' = σ) := by
  refine Ct_of moX11_takesOperand [some (.int k)] rfl (Nat.le_of_ble_eq_true rfl) ?_
  refine g_iload_n (i := 0) dX11_takesOperand_0 rfl rfl ?_
  refine g_iconst (v := 5) dX11_takesOperand_1 (by decide) ?_
  refine g_icmp_eq (tgt := 23) dX11_takesOperand_2 (by decide) (fun zc2 => ?_) (fun zc2 => ?_)
  · refine g_iconst (v := 1) dX11_takesOperand_23 (by decide) ?_
    refine g_goto (tgt := 28) dX11_takesOperand_24 (by decide) ?_
    refine g_zret dX11_takesOperand_28 rfl (rfl) ?_
    exact ⟨_, rfl, by first | exact (bI_t (by simp [*])).symm | exact (bI_f (by simp [*])).symm, rfl⟩
  · refine g_iload_n (i := 0) dX11_takesOperand_5 rfl rfl ?_
    refine g_bipush (v := 6) dX11_takesOperand_6 (by decide) ?_
    refine g_icmp_eq (tgt := 23) dX11_takesOperand_8 (by decide) (fun zc8 => ?_) (fun zc8 => ?_)
    · refine g_iconst (v := 1) dX11_takesOperand_23 (by decide) ?_
      refine g_goto (tgt := 28) dX11_takesOperand_24 (by decide) ?_
      refine g_zret dX11_takesOperand_28 rfl (rfl) ?_
      exact ⟨_, rfl, by first | exact (bI_t (by simp [*])).symm | exact (bI_f (by simp [*])).symm, rfl⟩
    · refine g_iload_n (i := 0) dX11_takesOperand_11 rfl rfl ?_
      refine g_bipush (v := 8) dX11_takesOperand_12 (by decide) ?_
      refine g_icmp_eq (tgt := 23) dX11_takesOperand_14 (by decide) (fun zc14 => ?_) (fun zc14 => ?_)
      · refine g_iconst (v := 1) dX11_takesOperand_23 (by decide) ?_
        refine g_goto (tgt := 28) dX11_takesOperand_24 (by decide) ?_
        refine g_zret dX11_takesOperand_28 rfl (rfl) ?_
        exact ⟨_, rfl, by first | exact (bI_t (by simp [*])).symm | exact (bI_f (by simp [*])).symm, rfl⟩
      · refine g_iload_n (i := 0) dX11_takesOperand_17 rfl rfl ?_
        refine g_bipush (v := 12) dX11_takesOperand_18 (by decide) ?_
        refine g_icmp_ne (tgt := 27) dX11_takesOperand_20 (by decide) (fun zc20 => ?_) (fun zc20 => ?_)
        · refine g_iconst (v := 0) dX11_takesOperand_27 (by decide) ?_
          refine g_zret dX11_takesOperand_28 rfl (rfl) ?_
          exact ⟨_, rfl, by first | exact (bI_t (by simp [*])).symm | exact (bI_f (by simp [*])).symm, rfl⟩
        · refine g_iconst (v := 1) dX11_takesOperand_23 (by decide) ?_
          refine g_goto (tgt := 28) dX11_takesOperand_24 (by decide) ?_
          refine g_zret dX11_takesOperand_28 rfl (rfl) ?_
          exact ⟨_, rfl, by first | exact (bI_t (by simp [*])).symm | exact (bI_f (by simp [*])).symm, rfl⟩
theorem c_X11_takesCount (k : Int32) : Ct l mX11_takesCount 1 0 0 [.int k] σ (pI fun r σ' => r = bI (k = 0 ∨ k = 1 ∨ k = 10) ∧ σ' = σ) := by
  refine Ct_of moX11_takesCount [some (.int k)] rfl (Nat.le_of_ble_eq_true rfl) ?_
  refine g_iload_n (i := 0) dX11_takesCount_0 rfl rfl ?_
  refine g_if_eq (tgt := 15) dX11_takesCount_1 (by decide) (fun zc1 => ?_) (fun zc1 => ?_)
  · refine g_iconst (v := 1) dX11_takesCount_15 (by decide) ?_
    refine g_goto (tgt := 20) dX11_takesCount_16 (by decide) ?_
    refine g_zret dX11_takesCount_20 rfl (rfl) ?_
    exact ⟨_, rfl, by first | exact (bI_t (by simp [*])).symm | exact (bI_f (by simp [*])).symm, rfl⟩
  · refine g_iload_n (i := 0) dX11_takesCount_4 rfl rfl ?_
    refine g_iconst (v := 1) dX11_takesCount_5 (by decide) ?_
    refine g_icmp_eq (tgt := 15) dX11_takesCount_6 (by decide) (fun zc6 => ?_) (fun zc6 => ?_)
    · refine g_iconst (v := 1) dX11_takesCount_15 (by decide) ?_
      refine g_goto (tgt := 20) dX11_takesCount_16 (by decide) ?_
      refine g_zret dX11_takesCount_20 rfl (rfl) ?_
      exact ⟨_, rfl, by first | exact (bI_t (by simp [*])).symm | exact (bI_f (by simp [*])).symm, rfl⟩
    · refine g_iload_n (i := 0) dX11_takesCount_9 rfl rfl ?_
      refine g_bipush (v := 10) dX11_takesCount_10 (by decide) ?_
      refine g_icmp_ne (tgt := 19) dX11_takesCount_12 (by decide) (fun zc12 => ?_) (fun zc12 => ?_)
      · refine g_iconst (v := 0) dX11_takesCount_19 (by decide) ?_
        refine g_zret dX11_takesCount_20 rfl (rfl) ?_
        exact ⟨_, rfl, by first | exact (bI_t (by simp [*])).symm | exact (bI_f (by simp [*])).symm, rfl⟩
      · refine g_iconst (v := 1) dX11_takesCount_15 (by decide) ?_
        refine g_goto (tgt := 20) dX11_takesCount_16 (by decide) ?_
        refine g_zret dX11_takesCount_20 rfl (rfl) ?_
        exact ⟨_, rfl, by first | exact (bI_t (by simp [*])).symm | exact (bI_f (by simp [*])).symm, rfl⟩
end CBits
