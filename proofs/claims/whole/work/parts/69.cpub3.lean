/-! the class's public methods: inverse, check, fails -/
theorem ck_hi {N : Nat} (hN : N = 8 ∨ N = 16 ∨ N = 32 ∨ N = 64) {a b : Int64} (ha : uN a < 2 ^ N) (hb : uN b < 2 ^ N) : uN (bHiP (nI N) a b) = uN a * uN b / 2 ^ N := by
  unfold bHiP
  by_cases h64 : N = 64
  · subst h64
    rw [if_pos (by decide), bHi64_N, pw64]
  · have hlt : N < 64 := by omega
    rw [if_neg (by rcases hN with rfl | rfl | rfl | rfl <;> first | decide | exact absurd rfl h64), uN_gUshr _ hlt, uN_mul]
    have h1 : uN a * uN b < 2 ^ N * 2 ^ N := Nat.mul_lt_mul'' ha hb
    have h2 : 2 ^ N * 2 ^ N ≤ 18446744073709551616 := by
      rw [← Nat.pow_add, ← pw64]
      exact Nat.pow_le_pow_right (by decide) (by omega)
    rw [Nat.mod_eq_of_lt (Nat.lt_of_lt_of_le h1 h2)]
theorem ck_lo {N : Nat} (hN : N = 8 ∨ N = 16 ∨ N = 32 ∨ N = 64) (a b : Int64) : uN (mLow (a * b) (nI N)) = uN a * uN b % 2 ^ N := by
  rw [uN_mLow _ hN, uN_mul]
  have hd : 2 ^ N ∣ 18446744073709551616 := by
    rw [← pw64]
    exact Nat.pow_dvd_pow 2 (by omega)
  rw [Nat.mod_mod_of_dvd _ hd]
theorem ck_lt {Z Y c h lo : Nat} (hYZ : 2 * Y ≤ Z) (hY : 0 < Y) (hc : c ≤ 1) (hh : h < Z) (hlo : lo < Z) : (Y * Z ≤ (c * Z + h) * Z + lo ∧ (c * Z + h) * Z + lo ≤ Y * Z + Y) ↔ (c = 0 ∧ h = Y ∧ lo ≤ Y) := by
  constructor
  · rintro ⟨h1, h2⟩
    have hc0 : c = 0 := by
      rcases Nat.eq_zero_or_pos c with q | q
      · exact q
      · have hc1 : c = 1 := by omega
        subst hc1
        have : Z * Z ≤ (1 * Z + h) * Z := Nat.mul_le_mul_right Z (by omega)
        have h3 : 2 * Y * Z ≤ Z * Z := Nat.mul_le_mul_right Z hYZ
        have h4 : Y * Z + Y * Z = 2 * Y * Z := by rw [Nat.mul_assoc]; omega
        have h5 : Y * 2 ≤ Y * Z := Nat.mul_le_mul_left Y (by omega)
        omega
    subst hc0
    rw [Nat.zero_mul, Nat.zero_add] at h1 h2
    have hhY : h = Y := by
      rcases Nat.lt_trichotomy h Y with q | q | q
      · have : (h + 1) * Z ≤ Y * Z := Nat.mul_le_mul_right Z q
        rw [Nat.add_mul] at this
        omega
      · exact q
      · have : (Y + 1) * Z ≤ h * Z := Nat.mul_le_mul_right Z q
        rw [Nat.add_mul] at this
        omega
    subst hhY
    exact ⟨rfl, rfl, by omega⟩
  · rintro ⟨rfl, rfl, h3⟩
    rw [Nat.zero_mul, Nat.zero_add]
    omega
theorem ck_eq {Z c h lo : Nat} (hZ : 2 ≤ Z) (hc : c ≤ 1) (hh : h < Z) (hlo : lo < Z) : (Z * Z ≤ (c * Z + h) * Z + lo ∧ (c * Z + h) * Z + lo ≤ Z * Z + Z) ↔ (c = 1 ∧ (h = 0 ∨ (h = 1 ∧ lo = 0))) := by
  constructor
  · rintro ⟨h1, h2⟩
    have hc1 : c = 1 := by
      rcases Nat.eq_zero_or_pos c with q | q
      · subst q
        rw [Nat.zero_mul, Nat.zero_add] at h1
        have : (h + 1) * Z ≤ Z * Z := Nat.mul_le_mul_right Z hh
        rw [Nat.add_mul] at this
        omega
      · omega
    subst hc1
    rw [Nat.one_mul, Nat.add_mul] at h2
    refine ⟨rfl, ?_⟩
    rcases Nat.eq_zero_or_pos h with q | q
    · exact Or.inl q
    · right
      rcases Nat.lt_or_ge 1 h with z | z
      · have : 2 * Z ≤ h * Z := Nat.mul_le_mul_right Z z
        omega
      · have e : h = 1 := by omega
        subst e
        exact ⟨rfl, by omega⟩
  · rintro ⟨rfl, h2⟩
    rw [Nat.one_mul, Nat.add_mul]
    rcases h2 with rfl | ⟨rfl, rfl⟩
    · omega
    · omega
theorem ck_ov {N : Nat} (hN : N = 8 ∨ N = 16 ∨ N = 32 ∨ N = 64) {d m hi lo : Int64} {ov : Int32} (hb : uN (mLow d (nI N)) < 2 ^ N) (hhi : uN hi = uN (mLow m (nI N)) * uN (mLow d (nI N)) / 2 ^ N) (hlo : uN lo = uN (mLow m (nI N)) * uN (mLow d (nI N)) % 2 ^ N) (hsp : 2 ^ N * (uN (mLow m (nI N)) * uN (mLow d (nI N)) / 2 ^ N) + uN (mLow m (nI N)) * uN (mLow d (nI N)) % 2 ^ N = uN (mLow m (nI N)) * uN (mLow d (nI N))) (hdl : uN (mLow m (nI N)) * uN (mLow d (nI N)) / 2 ^ N < 2 ^ N) (h1 : ov = 1) : ∀ c : Nat, c ≤ 1 → (c = 1 ↔ bLt (mLow (hi + mLow d (nI N)) (nI N)) hi) → (c * 2 ^ N + uN (mLow (hi + mLow d (nI N)) (nI N))) * 2 ^ N + uN lo = ckM (nI N) d m ov := by
  intro c c1 c2
  have hcN : (nI N).toNatClampNeg = N := nI_clamp (by omega)
  have hu : uN (mLow (hi + mLow d (nI N)) (nI N)) = (uN hi + uN (mLow d (nI N))) % 2 ^ N := by
    rw [uN_mLow _ hN, uN_add]
    have hd : 2 ^ N ∣ 18446744073709551616 := by
      rw [← pw64]
      exact Nat.pow_dvd_pow 2 (by omega)
    rw [Nat.mod_mod_of_dvd _ hd]
  rw [uN_bLt, hu] at c2
  have e0 : (uN (mLow m (nI N)) + 2 ^ N) * uN (mLow d (nI N)) = uN (mLow m (nI N)) * uN (mLow d (nI N)) + 2 ^ N * uN (mLow d (nI N)) := Nat.add_mul _ _ _
  unfold ckM
  rw [if_pos h1, hcN, hu, e0, ← hsp, hlo]
  generalize uN (mLow m (nI N)) * uN (mLow d (nI N)) % 2 ^ N = L at *
  rw [← hhi] at hdl ⊢
  generalize uN (mLow d (nI N)) = B at *
  generalize uN hi = H at *
  have hc : c * 2 ^ N + (H + B) % 2 ^ N = H + B := by
    have hdm := Nat.div_add_mod (H + B) (2 ^ N)
    rcases Nat.lt_or_ge (H + B) (2 ^ N) with z | z
    · rw [Nat.mod_eq_of_lt z] at c2 ⊢
      have : c = 0 := by
        rcases (show c = 0 ∨ c = 1 by omega) with q | q
        · exact q
        · have := c2.mp q
          omega
      rw [this]
      omega
    · have e : (H + B) % 2 ^ N = H + B - 2 ^ N := by
        rw [Nat.mod_eq_sub_mod z]
        exact Nat.mod_eq_of_lt (by omega)
      rw [e] at c2 ⊢
      have : c = 1 := c2.mpr (by omega)
      rw [this]
      omega
  rw [hc, Nat.add_mul, Nat.mul_comm H, Nat.mul_comm B]
  omega
section CPub3
variable {l : Launch} {τ : gH} {x : Nat} {A : aA}
theorem c_X10_proofHolds {N s : Nat} (hN : N = 8 ∨ N = 16 ∨ N = 32 ∨ N = 64) (hs : s ≤ N) {ca : Prop} {hi lo : Int64} (hh : uN hi < 2 ^ N) (hl : uN lo < 2 ^ N) : Ct l mX10_proofHolds 2 0 0 [.int (nI N), .int (nI s), .int (bI ca), .long hi, .long lo] τ (pI fun r σ' => r = bI (∃ c : Nat, c ≤ 1 ∧ (c = 1 ↔ ca) ∧ 2 ^ (N + s) ≤ (c * 2 ^ N + uN hi) * 2 ^ N + uN lo ∧ (c * 2 ^ N + uN hi) * 2 ^ N + uN lo ≤ 2 ^ (N + s) + 2 ^ s) ∧ σ' = τ) := by
  obtain ⟨cI, hcI⟩ : ∃ q, q = bI ca := ⟨_, rfl⟩
  rw [← hcI]
  refine Ct_of moX10_proofHolds [some (.int (nI N)), some (.int (nI s)), some (.int cI), some (.long hi), none, some (.long lo), none] rfl (Nat.le_of_ble_eq_true rfl) ?_
  have hZ : 256 ≤ 2 ^ N := by rcases hN with rfl | rfl | rfl | rfl <;> decide
  by_cases hsN : s < N
  · have hY2 : 2 * 2 ^ s ≤ 2 ^ N := by
      have : 2 ^ (s + 1) ≤ 2 ^ N := Nat.pow_le_pow_right (by decide) (by omega)
      rw [Nat.pow_succ] at this
      omega
    have hsh : uN (gShl 1 (nI s)) = 2 ^ s := by
      rw [uN_gShl 1 (by omega), show uN 1 = 1 from by decide, Nat.one_mul]
      exact Nat.mod_eq_of_lt (Nat.lt_of_lt_of_le (Nat.pow_lt_pow_right (by decide) (show s < 64 by omega)) (by decide))
    have key : (∃ c : Nat, c ≤ 1 ∧ (c = 1 ↔ ca) ∧ 2 ^ (N + s) ≤ (c * 2 ^ N + uN hi) * 2 ^ N + uN lo ∧ (c * 2 ^ N + uN hi) * 2 ^ N + uN lo ≤ 2 ^ (N + s) + 2 ^ s) ↔ (¬ ca ∧ uN hi = 2 ^ s ∧ uN lo ≤ 2 ^ s) := by
      rw [show 2 ^ (N + s) = 2 ^ s * 2 ^ N by rw [Nat.add_comm, Nat.pow_add]]
      constructor
      · rintro ⟨c, c1, c2, c3⟩
        obtain ⟨e1, e2, e3⟩ := (ck_lt hY2 (Nat.two_pow_pos s) c1 hh hl).mp c3
        exact ⟨fun z => by have := c2.mpr z; omega, e2, e3⟩
      · rintro ⟨e1, e2, e3⟩
        exact ⟨0, by omega, ⟨fun z => by omega, fun z => absurd z e1⟩, (ck_lt hY2 (Nat.two_pow_pos s) (by omega) hh hl).mpr ⟨rfl, e2, e3⟩⟩
    refine g_iload_n (i := 1) dX10_proofHolds_0 rfl rfl ?_
    refine g_iload_n (i := 0) dX10_proofHolds_1 rfl rfl ?_
    refine g_icmp_ge (tgt := 34) dX10_proofHolds_2 (by decide) (fun zc2 => ?_) (fun zc2 => ?_)
    · exact absurd zc2 (nI_ge hsN (by omega))
    · refine g_iload_n (i := 2) dX10_proofHolds_5 rfl rfl ?_
      refine g_if_ne (tgt := 32) dX10_proofHolds_6 (by decide) (fun zc6 => ?_) (fun zc6 => ?_)
      · refine g_iconst (v := 0) dX10_proofHolds_32 (by decide) ?_
        refine g_zret dX10_proofHolds_33 rfl (rfl) ?_
        refine ⟨_, rfl, ?_, rfl⟩
        first
        | (refine Eq.symm (bI_t ?_); refine key.mpr ⟨?_, ?_, ?_⟩; (rw [hcI] at zc6; exact bI_eq0.mp (Classical.byContradiction zc6)); (rw [(lg_cmp_eq _ _).mp (Classical.byContradiction zc14)]; exact hsh); (have q := mt (uN_bLt _ _).mpr (bI_eq0.mp (Classical.byContradiction zc25)); rw [hsh] at q; exact Nat.not_lt.mp q))
        | (refine Eq.symm (bI_t ?_); refine key.mpr ⟨?_, ?_, ?_⟩; (rw [hcI] at zc6; exact bI_eq0.mp zc6); (rw [(lg_cmp_eq _ _).mp zc14]; exact hsh); (have q := mt (uN_bLt _ _).mpr (bI_eq0.mp zc25); rw [hsh] at q; exact Nat.not_lt.mp q))
        | (refine Eq.symm (bI_f ?_); intro z; rw [hcI] at zc6; exact (key.mp z).1 (bI_ne0.mp zc6))
        | (refine Eq.symm (bI_f ?_); intro z; exact zc14 ((lg_cmp_eq _ _).mpr (uN_inj ((key.mp z).2.1.trans hsh.symm))))
        | (refine Eq.symm (bI_f ?_); intro z; have q := (uN_bLt _ _).mp (bI_ne0.mp zc25); rw [hsh] at q; have := (key.mp z).2.2; omega)
      · refine g_lload_n (i := 3) dX10_proofHolds_9 rfl rfl ?_
        refine g_lconst (v := 1) dX10_proofHolds_10 (by decide) ?_
        refine g_iload_n (i := 1) dX10_proofHolds_11 rfl rfl ?_
        refine g_lshl dX10_proofHolds_12 ?_
        refine g_lcmp dX10_proofHolds_13 ?_
        refine g_if_ne (tgt := 32) dX10_proofHolds_14 (by decide) (fun zc14 => ?_) (fun zc14 => ?_)
        · refine g_iconst (v := 0) dX10_proofHolds_32 (by decide) ?_
          refine g_zret dX10_proofHolds_33 rfl (rfl) ?_
          refine ⟨_, rfl, ?_, rfl⟩
          first
          | (refine Eq.symm (bI_t ?_); refine key.mpr ⟨?_, ?_, ?_⟩; (rw [hcI] at zc6; exact bI_eq0.mp (Classical.byContradiction zc6)); (rw [(lg_cmp_eq _ _).mp (Classical.byContradiction zc14)]; exact hsh); (have q := mt (uN_bLt _ _).mpr (bI_eq0.mp (Classical.byContradiction zc25)); rw [hsh] at q; exact Nat.not_lt.mp q))
          | (refine Eq.symm (bI_t ?_); refine key.mpr ⟨?_, ?_, ?_⟩; (rw [hcI] at zc6; exact bI_eq0.mp zc6); (rw [(lg_cmp_eq _ _).mp zc14]; exact hsh); (have q := mt (uN_bLt _ _).mpr (bI_eq0.mp zc25); rw [hsh] at q; exact Nat.not_lt.mp q))
          | (refine Eq.symm (bI_f ?_); intro z; rw [hcI] at zc6; exact (key.mp z).1 (bI_ne0.mp zc6))
          | (refine Eq.symm (bI_f ?_); intro z; exact zc14 ((lg_cmp_eq _ _).mpr (uN_inj ((key.mp z).2.1.trans hsh.symm))))
          | (refine Eq.symm (bI_f ?_); intro z; have q := (uN_bLt _ _).mp (bI_ne0.mp zc25); rw [hsh] at q; have := (key.mp z).2.2; omega)
        · refine g_lconst (v := 1) dX10_proofHolds_17 (by decide) ?_
          refine g_iload_n (i := 1) dX10_proofHolds_18 rfl rfl ?_
          refine g_lshl dX10_proofHolds_19 ?_
          refine g_lload dX10_proofHolds_20 rfl ?_
          refine g_callSi (My := mX2_below) [_, _] dX10_proofHolds_22 lkX10_181 mvX2_below rfl (c_X2_below _ _) (by decide) (by decide) (by decide) rfl (Nat.le_of_ble_eq_true rfl) (fun zr22 σ zh22 => ?_)
          obtain ⟨ze22, zf22⟩ := zh22
          rw [ze22, zf22]
          refine g_if_ne (tgt := 32) dX10_proofHolds_25 (by decide) (fun zc25 => ?_) (fun zc25 => ?_)
          · refine g_iconst (v := 0) dX10_proofHolds_32 (by decide) ?_
            refine g_zret dX10_proofHolds_33 rfl (rfl) ?_
            refine ⟨_, rfl, ?_, rfl⟩
            first
            | (refine Eq.symm (bI_t ?_); refine key.mpr ⟨?_, ?_, ?_⟩; (rw [hcI] at zc6; exact bI_eq0.mp (Classical.byContradiction zc6)); (rw [(lg_cmp_eq _ _).mp (Classical.byContradiction zc14)]; exact hsh); (have q := mt (uN_bLt _ _).mpr (bI_eq0.mp (Classical.byContradiction zc25)); rw [hsh] at q; exact Nat.not_lt.mp q))
            | (refine Eq.symm (bI_t ?_); refine key.mpr ⟨?_, ?_, ?_⟩; (rw [hcI] at zc6; exact bI_eq0.mp zc6); (rw [(lg_cmp_eq _ _).mp zc14]; exact hsh); (have q := mt (uN_bLt _ _).mpr (bI_eq0.mp zc25); rw [hsh] at q; exact Nat.not_lt.mp q))
            | (refine Eq.symm (bI_f ?_); intro z; rw [hcI] at zc6; exact (key.mp z).1 (bI_ne0.mp zc6))
            | (refine Eq.symm (bI_f ?_); intro z; exact zc14 ((lg_cmp_eq _ _).mpr (uN_inj ((key.mp z).2.1.trans hsh.symm))))
            | (refine Eq.symm (bI_f ?_); intro z; have q := (uN_bLt _ _).mp (bI_ne0.mp zc25); rw [hsh] at q; have := (key.mp z).2.2; omega)
          · refine g_iconst (v := 1) dX10_proofHolds_28 (by decide) ?_
            refine g_goto (tgt := 33) dX10_proofHolds_29 (by decide) ?_
            refine g_zret dX10_proofHolds_33 rfl (rfl) ?_
            refine ⟨_, rfl, ?_, rfl⟩
            first
            | (refine Eq.symm (bI_t ?_); refine key.mpr ⟨?_, ?_, ?_⟩; (rw [hcI] at zc6; exact bI_eq0.mp (Classical.byContradiction zc6)); (rw [(lg_cmp_eq _ _).mp (Classical.byContradiction zc14)]; exact hsh); (have q := mt (uN_bLt _ _).mpr (bI_eq0.mp (Classical.byContradiction zc25)); rw [hsh] at q; exact Nat.not_lt.mp q))
            | (refine Eq.symm (bI_t ?_); refine key.mpr ⟨?_, ?_, ?_⟩; (rw [hcI] at zc6; exact bI_eq0.mp zc6); (rw [(lg_cmp_eq _ _).mp zc14]; exact hsh); (have q := mt (uN_bLt _ _).mpr (bI_eq0.mp zc25); rw [hsh] at q; exact Nat.not_lt.mp q))
            | (refine Eq.symm (bI_f ?_); intro z; rw [hcI] at zc6; exact (key.mp z).1 (bI_ne0.mp zc6))
            | (refine Eq.symm (bI_f ?_); intro z; exact zc14 ((lg_cmp_eq _ _).mpr (uN_inj ((key.mp z).2.1.trans hsh.symm))))
            | (refine Eq.symm (bI_f ?_); intro z; have q := (uN_bLt _ _).mp (bI_ne0.mp zc25); rw [hsh] at q; have := (key.mp z).2.2; omega)
  · have hsN' : s = N := by omega
    subst hsN'
    have key : (∃ c : Nat, c ≤ 1 ∧ (c = 1 ↔ ca) ∧ 2 ^ (s + s) ≤ (c * 2 ^ s + uN hi) * 2 ^ s + uN lo ∧ (c * 2 ^ s + uN hi) * 2 ^ s + uN lo ≤ 2 ^ (s + s) + 2 ^ s) ↔ (ca ∧ (hi = 0 ∨ (hi = 1 ∧ lo = 0))) := by
      have z0 : ∀ a : Int64, a = 0 ↔ uN a = 0 := fun a => ⟨fun z => by rw [z]; rfl, fun z => uN_inj (z.trans (by decide : (0 : Nat) = uN 0))⟩
      have z1 : ∀ a : Int64, a = 1 ↔ uN a = 1 := fun a => ⟨fun z => by rw [z]; rfl, fun z => uN_inj (z.trans (by decide : (1 : Nat) = uN 1))⟩
      rw [z0, z1, z0, show 2 ^ (s + s) = 2 ^ s * 2 ^ s by rw [Nat.pow_add]]
      constructor
      · rintro ⟨c, c1, c2, c3⟩
        obtain ⟨e1, e2⟩ := (ck_eq (by omega) c1 hh hl).mp c3
        exact ⟨c2.mp e1, e2⟩
      · rintro ⟨e1, e2⟩
        exact ⟨1, Nat.le_refl _, ⟨fun _ => e1, fun _ => rfl⟩, (ck_eq (by omega) (Nat.le_refl _) hh hl).mpr ⟨rfl, e2⟩⟩
    refine g_iload_n (i := 1) dX10_proofHolds_0 rfl rfl ?_
    refine g_iload_n (i := 0) dX10_proofHolds_1 rfl rfl ?_
    refine g_icmp_ge (tgt := 34) dX10_proofHolds_2 (by decide) (fun zc2 => ?_) (fun zc2 => ?_)
    · refine g_iload_n (i := 2) dX10_proofHolds_34 rfl rfl ?_
      refine g_if_eq (tgt := 61) dX10_proofHolds_35 (by decide) (fun zc35 => ?_) (fun zc35 => ?_)
      · refine g_iconst (v := 0) dX10_proofHolds_61 (by decide) ?_
        refine g_zret dX10_proofHolds_62 rfl (rfl) ?_
        refine ⟨_, rfl, ?_, rfl⟩
        first
        | (refine Eq.symm (bI_f ?_); intro z; rw [hcI] at zc35; exact bI_eq0.mp zc35 (key.mp z).1)
        | (refine Eq.symm (bI_t ?_); rw [hcI] at zc35; exact key.mpr ⟨bI_ne0.mp zc35, Or.inl ((lg_cmp_eq _ _).mp zc41)⟩)
        | (refine Eq.symm (bI_t ?_); rw [hcI] at zc35; exact key.mpr ⟨bI_ne0.mp zc35, Or.inr ⟨(lg_cmp_eq _ _).mp zc47, (lg_cmp_eq _ _).mp zc54⟩⟩)
        | (refine Eq.symm (bI_f ?_); intro z; exact (key.mp z).2.elim (fun q => zc41 ((lg_cmp_eq _ _).mpr q)) (fun q => zc47 ((lg_cmp_eq _ _).mpr q.1)))
        | (refine Eq.symm (bI_f ?_); intro z; exact (key.mp z).2.elim (fun q => zc41 ((lg_cmp_eq _ _).mpr q)) (fun q => zc54 ((lg_cmp_eq _ _).mpr q.2)))
      · refine g_lload_n (i := 3) dX10_proofHolds_38 rfl rfl ?_
        refine g_lconst (v := 0) dX10_proofHolds_39 (by decide) ?_
        refine g_lcmp dX10_proofHolds_40 ?_
        refine g_if_eq (tgt := 57) dX10_proofHolds_41 (by decide) (fun zc41 => ?_) (fun zc41 => ?_)
        · refine g_iconst (v := 1) dX10_proofHolds_57 (by decide) ?_
          refine g_goto (tgt := 62) dX10_proofHolds_58 (by decide) ?_
          refine g_zret dX10_proofHolds_62 rfl (rfl) ?_
          refine ⟨_, rfl, ?_, rfl⟩
          first
          | (refine Eq.symm (bI_f ?_); intro z; rw [hcI] at zc35; exact bI_eq0.mp zc35 (key.mp z).1)
          | (refine Eq.symm (bI_t ?_); rw [hcI] at zc35; exact key.mpr ⟨bI_ne0.mp zc35, Or.inl ((lg_cmp_eq _ _).mp zc41)⟩)
          | (refine Eq.symm (bI_t ?_); rw [hcI] at zc35; exact key.mpr ⟨bI_ne0.mp zc35, Or.inr ⟨(lg_cmp_eq _ _).mp zc47, (lg_cmp_eq _ _).mp zc54⟩⟩)
          | (refine Eq.symm (bI_f ?_); intro z; exact (key.mp z).2.elim (fun q => zc41 ((lg_cmp_eq _ _).mpr q)) (fun q => zc47 ((lg_cmp_eq _ _).mpr q.1)))
          | (refine Eq.symm (bI_f ?_); intro z; exact (key.mp z).2.elim (fun q => zc41 ((lg_cmp_eq _ _).mpr q)) (fun q => zc54 ((lg_cmp_eq _ _).mpr q.2)))
        · refine g_lload_n (i := 3) dX10_proofHolds_44 rfl rfl ?_
          refine g_lconst (v := 1) dX10_proofHolds_45 (by decide) ?_
          refine g_lcmp dX10_proofHolds_46 ?_
          refine g_if_ne (tgt := 61) dX10_proofHolds_47 (by decide) (fun zc47 => ?_) (fun zc47 => ?_)
          · refine g_iconst (v := 0) dX10_proofHolds_61 (by decide) ?_
            refine g_zret dX10_proofHolds_62 rfl (rfl) ?_
            refine ⟨_, rfl, ?_, rfl⟩
            first
            | (refine Eq.symm (bI_f ?_); intro z; rw [hcI] at zc35; exact bI_eq0.mp zc35 (key.mp z).1)
            | (refine Eq.symm (bI_t ?_); rw [hcI] at zc35; exact key.mpr ⟨bI_ne0.mp zc35, Or.inl ((lg_cmp_eq _ _).mp zc41)⟩)
            | (refine Eq.symm (bI_t ?_); rw [hcI] at zc35; exact key.mpr ⟨bI_ne0.mp zc35, Or.inr ⟨(lg_cmp_eq _ _).mp zc47, (lg_cmp_eq _ _).mp zc54⟩⟩)
            | (refine Eq.symm (bI_f ?_); intro z; exact (key.mp z).2.elim (fun q => zc41 ((lg_cmp_eq _ _).mpr q)) (fun q => zc47 ((lg_cmp_eq _ _).mpr q.1)))
            | (refine Eq.symm (bI_f ?_); intro z; exact (key.mp z).2.elim (fun q => zc41 ((lg_cmp_eq _ _).mpr q)) (fun q => zc54 ((lg_cmp_eq _ _).mpr q.2)))
          · refine g_lload dX10_proofHolds_50 rfl ?_
            refine g_lconst (v := 0) dX10_proofHolds_52 (by decide) ?_
            refine g_lcmp dX10_proofHolds_53 ?_
            refine g_if_ne (tgt := 61) dX10_proofHolds_54 (by decide) (fun zc54 => ?_) (fun zc54 => ?_)
            · refine g_iconst (v := 0) dX10_proofHolds_61 (by decide) ?_
              refine g_zret dX10_proofHolds_62 rfl (rfl) ?_
              refine ⟨_, rfl, ?_, rfl⟩
              first
              | (refine Eq.symm (bI_f ?_); intro z; rw [hcI] at zc35; exact bI_eq0.mp zc35 (key.mp z).1)
              | (refine Eq.symm (bI_t ?_); rw [hcI] at zc35; exact key.mpr ⟨bI_ne0.mp zc35, Or.inl ((lg_cmp_eq _ _).mp zc41)⟩)
              | (refine Eq.symm (bI_t ?_); rw [hcI] at zc35; exact key.mpr ⟨bI_ne0.mp zc35, Or.inr ⟨(lg_cmp_eq _ _).mp zc47, (lg_cmp_eq _ _).mp zc54⟩⟩)
              | (refine Eq.symm (bI_f ?_); intro z; exact (key.mp z).2.elim (fun q => zc41 ((lg_cmp_eq _ _).mpr q)) (fun q => zc47 ((lg_cmp_eq _ _).mpr q.1)))
              | (refine Eq.symm (bI_f ?_); intro z; exact (key.mp z).2.elim (fun q => zc41 ((lg_cmp_eq _ _).mpr q)) (fun q => zc54 ((lg_cmp_eq _ _).mpr q.2)))
            · refine g_iconst (v := 1) dX10_proofHolds_57 (by decide) ?_
              refine g_goto (tgt := 62) dX10_proofHolds_58 (by decide) ?_
              refine g_zret dX10_proofHolds_62 rfl (rfl) ?_
              refine ⟨_, rfl, ?_, rfl⟩
              first
              | (refine Eq.symm (bI_f ?_); intro z; rw [hcI] at zc35; exact bI_eq0.mp zc35 (key.mp z).1)
              | (refine Eq.symm (bI_t ?_); rw [hcI] at zc35; exact key.mpr ⟨bI_ne0.mp zc35, Or.inl ((lg_cmp_eq _ _).mp zc41)⟩)
              | (refine Eq.symm (bI_t ?_); rw [hcI] at zc35; exact key.mpr ⟨bI_ne0.mp zc35, Or.inr ⟨(lg_cmp_eq _ _).mp zc47, (lg_cmp_eq _ _).mp zc54⟩⟩)
              | (refine Eq.symm (bI_f ?_); intro z; exact (key.mp z).2.elim (fun q => zc41 ((lg_cmp_eq _ _).mpr q)) (fun q => zc47 ((lg_cmp_eq _ _).mpr q.1)))
              | (refine Eq.symm (bI_f ?_); intro z; exact (key.mp z).2.elim (fun q => zc41 ((lg_cmp_eq _ _).mpr q)) (fun q => zc54 ((lg_cmp_eq _ _).mpr q.2)))
    · exact absurd (nI_le (Nat.le_refl _) (by omega)) zc2
theorem c_X10_check (hR : RC τ x A) (w : Int32) (d : Int64) (s : Int32) (m : Int64) (ov : Int32) : Ct l mX10_check 3 0 0 [.ref x, .int w, .long d, .int s, .long m, .int ov] τ (pI (cP x (sCheck w d s m ov, A))) := by
  refine Ct_of moX10_check [some (.ref x), some (.int w), some (.long d), none, some (.int s), some (.long m), none, some (.int ov), none, none, none, none, none, none, none, none, none, none, none, none, none] rfl (Nat.le_of_ble_eq_true rfl) ?_
  by_cases hh : isW w ∧ (¬ s < 0 ∧ s ≤ w) ∧ (ov = 0 ∨ ov = 1) ∧ ¬ mLow d w = 0
  · have hv0 : sCheck w d s m ov = bI (ckP w d s m ov) := by
      unfold sCheck
      rw [if_pos hh]
    rw [hv0]
    obtain ⟨hw, hs, ho, hd⟩ := hh
    have hlow : ∀ v : Int64, v &&& bMask w = mLow v w := fun v => low_eq v hw
    obtain ⟨N, hN, rfl⟩ := isW_N hw
    obtain ⟨sn, hsn, rfl⟩ := ixle N (by omega) hs.1 hs.2
    have ho0 : ¬ ov < 0 := by rcases ho with rfl | rfl <;> decide
    have ho1 : ov ≤ 1 := by rcases ho with rfl | rfl <;> decide
    have ha := mLow_lt m hN
    have hb := mLow_lt d hN
    have hcN : (nI N).toNatClampNeg = N := nI_clamp (by omega)
    have hcs : (nI sn).toNatClampNeg = sn := nI_clamp (by omega)
    have hP2 := Nat.two_pow_pos N
    have hhi := ck_hi hN ha hb
    have hlo := ck_lo hN (mLow m (nI N)) (mLow d (nI N))
    have hsp := Nat.div_add_mod (uN (mLow m (nI N)) * uN (mLow d (nI N))) (2 ^ N)
    have hdl : uN (mLow m (nI N)) * uN (mLow d (nI N)) / 2 ^ N < 2 ^ N := Nat.div_lt_of_lt_mul (Nat.mul_lt_mul'' ha hb)
    have hml : uN (mLow m (nI N)) * uN (mLow d (nI N)) % 2 ^ N < 2 ^ N := Nat.mod_lt _ hP2
    have hck : ∀ (ca : Prop) (hi : Int64) (hh2 : ∀ c : Nat, c ≤ 1 → (c = 1 ↔ ca) → (c * 2 ^ N + uN hi) * 2 ^ N + uN (mLow (mLow m (nI N) * mLow d (nI N)) (nI N)) = ckM (nI N) d m ov), bI (∃ c : Nat, c ≤ 1 ∧ (c = 1 ↔ ca) ∧ 2 ^ (N + sn) ≤ (c * 2 ^ N + uN hi) * 2 ^ N + uN (mLow (mLow m (nI N) * mLow d (nI N)) (nI N)) ∧ (c * 2 ^ N + uN hi) * 2 ^ N + uN (mLow (mLow m (nI N) * mLow d (nI N)) (nI N)) ≤ 2 ^ (N + sn) + 2 ^ sn) = bI (ckP (nI N) d (nI sn) m ov) := by
      intro ca hi hh2
      have e : (∃ c : Nat, c ≤ 1 ∧ (c = 1 ↔ ca) ∧ 2 ^ (N + sn) ≤ (c * 2 ^ N + uN hi) * 2 ^ N + uN (mLow (mLow m (nI N) * mLow d (nI N)) (nI N)) ∧ (c * 2 ^ N + uN hi) * 2 ^ N + uN (mLow (mLow m (nI N) * mLow d (nI N)) (nI N)) ≤ 2 ^ (N + sn) + 2 ^ sn) ↔ ckP (nI N) d (nI sn) m ov := by
        unfold ckP
        rw [hcN, hcs]
        constructor
        · rintro ⟨c, c1, c2, c3⟩
          rw [hh2 c c1 c2] at c3
          exact c3
        · intro z
          by_cases hca : ca
          · exact ⟨1, Nat.le_refl _, ⟨fun _ => hca, fun _ => rfl⟩, by rw [hh2 1 (Nat.le_refl _) ⟨fun _ => hca, fun _ => rfl⟩]; exact z⟩
          · exact ⟨0, by omega, ⟨fun q => absurd q (by decide), fun q => absurd q hca⟩, by rw [hh2 0 (by omega) ⟨fun q => absurd q (by decide), fun q => absurd q hca⟩]; exact z⟩
      by_cases q : ckP (nI N) d (nI sn) m ov
      · rw [bI_t q, bI_t (e.mpr q)]
      · rw [bI_f q, bI_f (fun z => q (e.mp z))]
    have t111 : ∀ (σ : gH) (ca : Prop) (hi : Int64) (v19 : Option Value), σ = τ → uN hi < 2 ^ N → (∀ c : Nat, c ≤ 1 → (c = 1 ↔ ca) → (c * 2 ^ N + uN hi) * 2 ^ N + uN (mLow (mLow m (nI N) * mLow d (nI N)) (nI N)) = ckM (nI N) d m ov) → G l mX10_check 3 0 0 (pI (cP x (bI (ckP (nI N) d (nI sn) m ov), A))) σ 111 [some (.ref x), some (.int (nI N)), some (.long d), none, some (.int (nI sn)), some (.long m), none, some (.int ov), some (.long (bMask (nI N))), none, some (.long (mLow d (nI N))), none, some (.long (mLow m (nI N))), none, some (.long (mLow (mLow m (nI N) * mLow d (nI N)) (nI N))), none, some (.long hi), none, some (.int (bI ca)), v19, none] [] := by
      intro σ ca hi v19 hσ hhl hh2
      subst hσ
      refine g_iload_n (i := 1) dX10_check_111 rfl rfl ?_
      refine g_iload dX10_check_112 rfl ?_
      refine g_iload dX10_check_114 rfl ?_
      refine g_lload dX10_check_116 rfl ?_
      refine g_lload dX10_check_118 rfl ?_
      refine g_callSi (My := mX10_proofHolds) [_, _, _, _, _] dX10_check_120 lkX10_185 mvX10_proofHolds rfl (c_X10_proofHolds hN hsn (ca := ca) hhl (mLow_lt _ hN)) (by decide) (by decide) (by decide) rfl (Nat.le_of_ble_eq_true rfl) (fun zr120 σ zh120 => ?_)
      obtain ⟨ze120, zf120⟩ := zh120
      rw [ze120, zf120, hck ca hi hh2]
      refine g_if_eq (tgt := 130) dX10_check_123 (by decide) (fun zc123 => ?_) (fun zc123 => ?_)
      · refine g_iconst (v := 0) dX10_check_130 (by decide) ?_
        refine g_iret dX10_check_131 rfl ?_
        refine ⟨_, rfl, ?_, hR⟩
        first
        | (rw [bI_t (bI_ne0.mp zc123)]; done)
        | (rw [bI_f (bI_eq0.mp zc123)]; done)
      · refine g_iconst (v := 1) dX10_check_126 (by decide) ?_
        refine g_goto (tgt := 131) dX10_check_127 (by decide) ?_
        refine g_iret dX10_check_131 rfl ?_
        refine ⟨_, rfl, ?_, hR⟩
        first
        | (rw [bI_t (bI_ne0.mp zc123)]; done)
        | (rw [bI_f (bI_eq0.mp zc123)]; done)
    have nov : ¬ ov = 1 → ∀ c : Nat, c ≤ 1 → (c = 1 ↔ False) → (c * 2 ^ N + uN (bHiP (nI N) (mLow m (nI N)) (mLow d (nI N)))) * 2 ^ N + uN (mLow (mLow m (nI N) * mLow d (nI N)) (nI N)) = ckM (nI N) d m ov := by
      intro h1 c c1 c2
      have c0 : c = 0 := by
        rcases (show c = 0 ∨ c = 1 by omega) with q | q
        · exact q
        · exact (c2.mp q).elim
      rw [c0, hhi, hlo, Nat.zero_mul, Nat.zero_add]
      unfold ckM
      rw [if_neg h1, Nat.add_zero, Nat.mul_comm _ (2 ^ N)]
      exact hsp
    refine g_iload_n (i := 1) dX10_check_0 rfl rfl ?_
    refine g_callSi (My := mX2_isWidth) [_] dX10_check_1 lkX10_62 mvX2_isWidth rfl (c_X2_isWidth _) (by decide) (by decide) (by decide) rfl (Nat.le_of_ble_eq_true rfl) (fun zr1 σ zh1 => ?_)
    obtain ⟨ze1, zf1⟩ := zh1
    rw [ze1, zf1]
    refine g_if_eq (tgt := 29) dX10_check_4 (by decide) (fun zc4 => ?_) (fun zc4 => ?_)
    · exact absurd hw (bI_eq0.mp zc4)
    · refine g_iload dX10_check_7 rfl ?_
      refine g_if_lt (tgt := 29) dX10_check_9 (by decide) (fun zc9 => ?_) (fun zc9 => ?_)
      · exact absurd zc9 hs.1
      · refine g_iload dX10_check_12 rfl ?_
        refine g_iload_n (i := 1) dX10_check_14 rfl rfl ?_
        refine g_icmp_gt (tgt := 29) dX10_check_15 (by decide) (fun zc15 => ?_) (fun zc15 => ?_)
        · exact absurd zc15 (Int32.not_lt.mpr hs.2)
        · refine g_iload dX10_check_18 rfl ?_
          refine g_if_lt (tgt := 29) dX10_check_20 (by decide) (fun zc20 => ?_) (fun zc20 => ?_)
          · exact absurd zc20 ho0
          · refine g_iload dX10_check_23 rfl ?_
            refine g_iconst (v := 1) dX10_check_25 (by decide) ?_
            refine g_icmp_le (tgt := 31) dX10_check_26 (by decide) (fun zc26 => ?_) (fun zc26 => ?_)
            · refine g_iload_n (i := 1) dX10_check_31 rfl rfl ?_
              refine g_callSl (My := mX2_mask) [_] dX10_check_32 lkX10_92 mvX2_mask rfl (c_X2_mask _) (by decide) (by decide) (by decide) rfl (Nat.le_of_ble_eq_true rfl) (fun zr32 σ zh32 => ?_)
              obtain ⟨ze32, zf32⟩ := zh32
              rw [ze32, zf32]
              refine g_lstore (ls' := [_, _, _, _, _, _, _, _, _, _, _, _, _, _, _, _, _, _, _, _, _]) dX10_check_35 (by decide) rfl rfl ?_
              refine g_lload_n (i := 2) dX10_check_37 rfl rfl ?_
              refine g_lload dX10_check_38 rfl ?_
              refine g_land dX10_check_40 ?_
              rw [hlow]
              refine g_lstore (ls' := [_, _, _, _, _, _, _, _, _, _, _, _, _, _, _, _, _, _, _, _, _]) dX10_check_41 (by decide) rfl rfl ?_
              refine g_lload dX10_check_43 rfl ?_
              refine g_lconst (v := 0) dX10_check_45 (by decide) ?_
              refine g_lcmp dX10_check_46 ?_
              refine g_if_ne (tgt := 52) dX10_check_47 (by decide) (fun zc47 => ?_) (fun zc47 => ?_)
              · refine g_lload dX10_check_52 rfl ?_
                refine g_lload dX10_check_54 rfl ?_
                refine g_land dX10_check_56 ?_
                rw [hlow]
                refine g_lstore (ls' := [_, _, _, _, _, _, _, _, _, _, _, _, _, _, _, _, _, _, _, _, _]) dX10_check_57 (by decide) rfl rfl ?_
                refine g_lload dX10_check_59 rfl ?_
                refine g_lload dX10_check_61 rfl ?_
                refine g_lmul dX10_check_63 ?_
                refine g_lload dX10_check_64 rfl ?_
                refine g_land dX10_check_66 ?_
                rw [hlow]
                refine g_lstore (ls' := [_, _, _, _, _, _, _, _, _, _, _, _, _, _, _, _, _, _, _, _, _]) dX10_check_67 (by decide) rfl rfl ?_
                refine g_iload_n (i := 1) dX10_check_69 rfl rfl ?_
                refine g_lload dX10_check_70 rfl ?_
                refine g_lload dX10_check_72 rfl ?_
                refine g_callSl (My := mX2_highPlain) [_, _, _] dX10_check_74 lkX10_177 mvX2_highPlain rfl (c_X2_highPlain _ _ _) (by decide) (by decide) (by decide) rfl (Nat.le_of_ble_eq_true rfl) (fun zr74 σ zh74 => ?_)
                obtain ⟨ze74, zf74⟩ := zh74
                rw [ze74, zf74]
                refine g_lstore (ls' := [_, _, _, _, _, _, _, _, _, _, _, _, _, _, _, _, _, _, _, _, _]) dX10_check_77 (by decide) rfl rfl ?_
                refine g_iconst (v := 0) dX10_check_79 (by decide) ?_
                refine g_istore (ls' := [_, _, _, _, _, _, _, _, _, _, _, _, _, _, _, _, _, _, _, _, _]) dX10_check_80 (by decide) rfl rfl ?_
                refine g_iload dX10_check_82 rfl ?_
                refine g_iconst (v := 1) dX10_check_84 (by decide) ?_
                refine g_icmp_ne (tgt := 111) dX10_check_85 (by decide) (fun zc85 => ?_) (fun zc85 => ?_)
                · first
                  | (refine g_cl ?_ (t111 _ False (bHiP (nI N) (mLow m (nI N)) (mLow d (nI N))) none rfl (by rw [hhi]; exact hdl) (nov zc85)); rw [bI_f (fun z => z)])
                  | (refine g_fg [some (.ref x), some (.int (nI N)), some (.long d), none, some (.int (nI sn)), some (.long m), none, some (.int ov), some (.long (bMask (nI N))), none, some (.long (mLow d (nI N))), none, some (.long (mLow m (nI N))), none, some (.long (mLow (mLow m (nI N) * mLow d (nI N)) (nI N))), none, some (.long (mLow (bHiP (nI N) (mLow m (nI N)) (mLow d (nI N)) + mLow d (nI N)) (nI N))), none, some (.int (bI (bLt (mLow (bHiP (nI N) (mLow m (nI N)) (mLow d (nI N)) + mLow d (nI N)) (nI N)) (bHiP (nI N) (mLow m (nI N)) (mLow d (nI N)))))), none, none] (by simp [gLe]) (t111 _ _ _ none rfl (mLow_lt _ hN) ?_); exact ck_ov hN hb hhi hlo hsp hdl zc85)
                · refine g_lload dX10_check_88 rfl ?_
                  refine g_lload dX10_check_90 rfl ?_
                  refine g_ladd dX10_check_92 ?_
                  refine g_lload dX10_check_93 rfl ?_
                  refine g_land dX10_check_95 ?_
                  rw [hlow]
                  refine g_lstore (ls' := [_, _, _, _, _, _, _, _, _, _, _, _, _, _, _, _, _, _, _, _, _]) dX10_check_96 (by decide) rfl rfl ?_
                  refine g_lload dX10_check_98 rfl ?_
                  refine g_lload dX10_check_100 rfl ?_
                  refine g_callSi (My := mX2_below) [_, _] dX10_check_102 lkX10_181 mvX2_below rfl (c_X2_below _ _) (by decide) (by decide) (by decide) rfl (Nat.le_of_ble_eq_true rfl) (fun zr102 σ zh102 => ?_)
                  obtain ⟨ze102, zf102⟩ := zh102
                  rw [ze102, zf102]
                  refine g_istore (ls' := [_, _, _, _, _, _, _, _, _, _, _, _, _, _, _, _, _, _, _, _, _]) dX10_check_105 (by decide) rfl rfl ?_
                  refine g_lload dX10_check_107 rfl ?_
                  refine g_lstore (ls' := [_, _, _, _, _, _, _, _, _, _, _, _, _, _, _, _, _, _, _, _, _]) dX10_check_109 (by decide) rfl rfl ?_
                  first
                  | (refine g_cl ?_ (t111 _ False (bHiP (nI N) (mLow m (nI N)) (mLow d (nI N))) none rfl (by rw [hhi]; exact hdl) (nov zc85)); rw [bI_f (fun z => z)])
                  | (refine g_fg [some (.ref x), some (.int (nI N)), some (.long d), none, some (.int (nI sn)), some (.long m), none, some (.int ov), some (.long (bMask (nI N))), none, some (.long (mLow d (nI N))), none, some (.long (mLow m (nI N))), none, some (.long (mLow (mLow m (nI N) * mLow d (nI N)) (nI N))), none, some (.long (mLow (bHiP (nI N) (mLow m (nI N)) (mLow d (nI N)) + mLow d (nI N)) (nI N))), none, some (.int (bI (bLt (mLow (bHiP (nI N) (mLow m (nI N)) (mLow d (nI N)) + mLow d (nI N)) (nI N)) (bHiP (nI N) (mLow m (nI N)) (mLow d (nI N)))))), none, none] (by simp [gLe]) (t111 _ _ _ none rfl (mLow_lt _ hN) ?_); exact ck_ov hN hb hhi hlo hsp hdl zc85)
              · exact absurd ((lg_cmp_eq _ _).mp zc47) hd
            · exact absurd ho1 zc26
  · have hv0 : sCheck w d s m ov = -1 := by
      unfold sCheck
      rw [if_neg hh]
    rw [hv0]
    refine g_iload_n (i := 1) dX10_check_0 rfl rfl ?_
    refine g_callSi (My := mX2_isWidth) [_] dX10_check_1 lkX10_62 mvX2_isWidth rfl (c_X2_isWidth _) (by decide) (by decide) (by decide) rfl (Nat.le_of_ble_eq_true rfl) (fun zr1 σ zh1 => ?_)
    obtain ⟨ze1, zf1⟩ := zh1
    rw [ze1, zf1]
    refine g_if_eq (tgt := 29) dX10_check_4 (by decide) (fun zc4 => ?_) (fun zc4 => ?_)
    · refine g_iconst (v := (-1)) dX10_check_29 (by decide) ?_
      refine g_iret dX10_check_30 rfl ?_
      exact ⟨_, rfl, rfl, hR⟩
    · refine g_iload dX10_check_7 rfl ?_
      refine g_if_lt (tgt := 29) dX10_check_9 (by decide) (fun zc9 => ?_) (fun zc9 => ?_)
      · refine g_iconst (v := (-1)) dX10_check_29 (by decide) ?_
        refine g_iret dX10_check_30 rfl ?_
        exact ⟨_, rfl, rfl, hR⟩
      · refine g_iload dX10_check_12 rfl ?_
        refine g_iload_n (i := 1) dX10_check_14 rfl rfl ?_
        refine g_icmp_gt (tgt := 29) dX10_check_15 (by decide) (fun zc15 => ?_) (fun zc15 => ?_)
        · refine g_iconst (v := (-1)) dX10_check_29 (by decide) ?_
          refine g_iret dX10_check_30 rfl ?_
          exact ⟨_, rfl, rfl, hR⟩
        · refine g_iload dX10_check_18 rfl ?_
          refine g_if_lt (tgt := 29) dX10_check_20 (by decide) (fun zc20 => ?_) (fun zc20 => ?_)
          · refine g_iconst (v := (-1)) dX10_check_29 (by decide) ?_
            refine g_iret dX10_check_30 rfl ?_
            exact ⟨_, rfl, rfl, hR⟩
          · refine g_iload dX10_check_23 rfl ?_
            refine g_iconst (v := 1) dX10_check_25 (by decide) ?_
            refine g_icmp_le (tgt := 31) dX10_check_26 (by decide) (fun zc26 => ?_) (fun zc26 => ?_)
            · refine g_iload_n (i := 1) dX10_check_31 rfl rfl ?_
              refine g_callSl (My := mX2_mask) [_] dX10_check_32 lkX10_92 mvX2_mask rfl (c_X2_mask _) (by decide) (by decide) (by decide) rfl (Nat.le_of_ble_eq_true rfl) (fun zr32 σ zh32 => ?_)
              obtain ⟨ze32, zf32⟩ := zh32
              rw [ze32, zf32]
              have hw := bI_ne0.mp zc4
              refine g_lstore (ls' := [_, _, _, _, _, _, _, _, _, _, _, _, _, _, _, _, _, _, _, _, _]) dX10_check_35 (by decide) rfl rfl ?_
              refine g_lload_n (i := 2) dX10_check_37 rfl rfl ?_
              refine g_lload dX10_check_38 rfl ?_
              refine g_land dX10_check_40 ?_
              rw [low_eq _ hw]
              refine g_lstore (ls' := [_, _, _, _, _, _, _, _, _, _, _, _, _, _, _, _, _, _, _, _, _]) dX10_check_41 (by decide) rfl rfl ?_
              refine g_lload dX10_check_43 rfl ?_
              refine g_lconst (v := 0) dX10_check_45 (by decide) ?_
              refine g_lcmp dX10_check_46 ?_
              refine g_if_ne (tgt := 52) dX10_check_47 (by decide) (fun zc47 => ?_) (fun zc47 => ?_)
              · exact absurd ⟨hw, ⟨zc9, Int32.not_lt.mp zc15⟩, i01 zc20 (Int32.not_lt.mpr zc26), fun q => zc47 ((lg_cmp_eq _ _).mpr q)⟩ hh
              · refine g_iconst (v := (-1)) dX10_check_50 (by decide) ?_
                refine g_iret dX10_check_51 rfl ?_
                exact ⟨_, rfl, rfl, hR⟩
            · refine g_iconst (v := (-1)) dX10_check_29 (by decide) ?_
              refine g_iret dX10_check_30 rfl ?_
              exact ⟨_, rfl, rfl, hR⟩
end CPub3
