/-! the reference: what an asking asks of a number -/
def aQR (n sg ws : Int32) (d v : Int64) : Int64 × Int64 := if sg = 0 then (mQuo v d, mRem v d) else if (ws = 1 ∨ ws = 3) ∧ mSig v n - mSdv (mSig v n) (mSig d n) * mSig d n < 0 then (mSdv (mSig v n) (mSig d n) - 1, mSig v n - mSdv (mSig v n) (mSig d n) * mSig d n + mSig d n) else (mSdv (mSig v n) (mSig d n), mSig v n - mSdv (mSig v n) (mSig d n) * mSig d n)
def mAns (n ws : Int32) (qr : Int64 × Int64) : Int64 := mLow (if ws = 2 ∨ ws = 3 then qr.2 else if ws = 4 then (if mLow qr.2 n = 0 then 1 else 0) else qr.1) n
section CMask
variable {l : Launch} {o : Nat} {ad : Nat → Nat} {S : mS}
theorem j_X11_asked {σ : gH} {S1 : mS} (hM : Mm σ o ad S1) (hF : sF S S1 [25] [1]) (n sg ws : Int32) (d v : Int64) (q r : Int64) {post : Option Value → gH → Prop} (hp : ∀ (σ' : gH) (S' : mS), Mm σ' o ad S' → S'.1 25 = bI (¬ mLow r n = 0) → sF S S' [25] [1] → post (some (.long (mAns n ws (q, r)))) σ') : G l mX11_asked 3 0 0 post σ 89 [some (.ref o), some (.int n), some (.int sg), some (.int ws), some (.long d), none, some (.long v), none, some (.long q), none, some (.long r), none, none, none, none, none] [] := by
  by_cases hl : mLow r n = 0
  · refine g_aload_n (i := 0) dX11_asked_89 rfl rfl ?_
    refine g_lload dX11_asked_90 rfl ?_
    refine g_iload_n (i := 1) dX11_asked_92 rfl rfl ?_
    refine g_callSl (My := mX11_low) [_, _] dX11_asked_93 lkX11_105 mvX11_low rfl (c_X11_low _ _) (by decide) (by decide) (by decide) rfl (Nat.le_of_ble_eq_true rfl) (fun zr93 σ zh93 => ?_)
    obtain ⟨rfl, rfl⟩ := zh93
    refine g_lconst (v := 0) dX11_asked_96 (by decide) ?_
    refine g_lcmp dX11_asked_97 ?_
    refine g_if_eq (tgt := 105) dX11_asked_98 (by decide) (fun zc98 => ?_) (fun zc98 => ?_)
    · refine g_iconst (v := 0) dX11_asked_105 (by decide) ?_
      refine gm_putz hM (k := 25) dX11_asked_106 flX11_243 fp9_25 (by decide) (by decide) (fun σ hM => ?_)
      refine g_iload_n (i := 3) dX11_asked_109 rfl rfl ?_
      refine g_iconst (v := 2) dX11_asked_110 (by decide) ?_
      refine g_icmp_eq (tgt := 119) dX11_asked_111 (by decide) (fun zc111 => ?_) (fun zc111 => ?_)
      · refine g_lload dX11_asked_119 rfl ?_
        refine g_goto (tgt := 146) dX11_asked_121 (by decide) ?_
        refine g_lstore (ls' := [_, _, _, _, _, _, _, _, _, _, _, _, _, _, _, _]) dX11_asked_146 (by decide) rfl rfl ?_
        refine g_lload dX11_asked_148 rfl ?_
        refine g_iload_n (i := 1) dX11_asked_150 rfl rfl ?_
        refine g_callSl (My := mX11_low) [_, _] dX11_asked_151 lkX11_105 mvX11_low rfl (c_X11_low _ _) (by decide) (by decide) (by decide) rfl (Nat.le_of_ble_eq_true rfl) (fun zr151 σ zh151 => ?_)
        obtain ⟨rfl, rfl⟩ := zh151
        refine g_lret dX11_asked_154 rfl ?_
        have e : mAns n ws (q, r) = mLow (if ws = 2 ∨ ws = 3 then r else if ws = 4 then 1 else q) n := by
          unfold mAns
          rw [if_pos hl]
        rw [e] at hp
        first
        | (rw [if_pos (Or.inl zc111)] at hp; exact hp _ _ hM (Eq.symm (bI_f (fun z => z hl))) (hF.ui (by decide) _))
        | (rw [if_pos (Or.inr zc116)] at hp; exact hp _ _ hM (Eq.symm (bI_f (fun z => z hl))) (hF.ui (by decide) _))
        | (rw [if_neg (fun z => z.elim zc111 zc116), if_pos zc126] at hp; exact hp _ _ hM (Eq.symm (bI_f (fun z => z hl))) (hF.ui (by decide) _))
        | (rw [if_neg (fun z => z.elim zc111 zc116), if_neg zc126] at hp; exact hp _ _ hM (Eq.symm (bI_f (fun z => z hl))) (hF.ui (by decide) _))
      · refine g_iload_n (i := 3) dX11_asked_114 rfl rfl ?_
        refine g_iconst (v := 3) dX11_asked_115 (by decide) ?_
        refine g_icmp_ne (tgt := 124) dX11_asked_116 (by decide) (fun zc116 => ?_) (fun zc116 => ?_)
        · refine g_iload_n (i := 3) dX11_asked_124 rfl rfl ?_
          refine g_iconst (v := 4) dX11_asked_125 (by decide) ?_
          refine g_icmp_ne (tgt := 144) dX11_asked_126 (by decide) (fun zc126 => ?_) (fun zc126 => ?_)
          · refine g_lload dX11_asked_144 rfl ?_
            refine g_lstore (ls' := [_, _, _, _, _, _, _, _, _, _, _, _, _, _, _, _]) dX11_asked_146 (by decide) rfl rfl ?_
            refine g_lload dX11_asked_148 rfl ?_
            refine g_iload_n (i := 1) dX11_asked_150 rfl rfl ?_
            refine g_callSl (My := mX11_low) [_, _] dX11_asked_151 lkX11_105 mvX11_low rfl (c_X11_low _ _) (by decide) (by decide) (by decide) rfl (Nat.le_of_ble_eq_true rfl) (fun zr151 σ zh151 => ?_)
            obtain ⟨rfl, rfl⟩ := zh151
            refine g_lret dX11_asked_154 rfl ?_
            have e : mAns n ws (q, r) = mLow (if ws = 2 ∨ ws = 3 then r else if ws = 4 then 1 else q) n := by
              unfold mAns
              rw [if_pos hl]
            rw [e] at hp
            first
            | (rw [if_pos (Or.inl zc111)] at hp; exact hp _ _ hM (Eq.symm (bI_f (fun z => z hl))) (hF.ui (by decide) _))
            | (rw [if_pos (Or.inr zc116)] at hp; exact hp _ _ hM (Eq.symm (bI_f (fun z => z hl))) (hF.ui (by decide) _))
            | (rw [if_neg (fun z => z.elim zc111 zc116), if_pos zc126] at hp; exact hp _ _ hM (Eq.symm (bI_f (fun z => z hl))) (hF.ui (by decide) _))
            | (rw [if_neg (fun z => z.elim zc111 zc116), if_neg zc126] at hp; exact hp _ _ hM (Eq.symm (bI_f (fun z => z hl))) (hF.ui (by decide) _))
          · refine g_aload_n (i := 0) dX11_asked_129 rfl rfl ?_
            refine gm_get hM (k := 25) dX11_asked_130 flX11_243 rfl ?_
            refine g_if_eq (tgt := 140) dX11_asked_133 (by decide) (fun zc133 => ?_) (fun zc133 => ?_)
            · refine g_lconst (v := 1) dX11_asked_140 (by decide) ?_
              refine g_goto (tgt := 146) dX11_asked_141 (by decide) ?_
              refine g_lstore (ls' := [_, _, _, _, _, _, _, _, _, _, _, _, _, _, _, _]) dX11_asked_146 (by decide) rfl rfl ?_
              refine g_lload dX11_asked_148 rfl ?_
              refine g_iload_n (i := 1) dX11_asked_150 rfl rfl ?_
              refine g_callSl (My := mX11_low) [_, _] dX11_asked_151 lkX11_105 mvX11_low rfl (c_X11_low _ _) (by decide) (by decide) (by decide) rfl (Nat.le_of_ble_eq_true rfl) (fun zr151 σ zh151 => ?_)
              obtain ⟨rfl, rfl⟩ := zh151
              refine g_lret dX11_asked_154 rfl ?_
              have e : mAns n ws (q, r) = mLow (if ws = 2 ∨ ws = 3 then r else if ws = 4 then 1 else q) n := by
                unfold mAns
                rw [if_pos hl]
              rw [e] at hp
              first
              | (rw [if_pos (Or.inl zc111)] at hp; exact hp _ _ hM (Eq.symm (bI_f (fun z => z hl))) (hF.ui (by decide) _))
              | (rw [if_pos (Or.inr zc116)] at hp; exact hp _ _ hM (Eq.symm (bI_f (fun z => z hl))) (hF.ui (by decide) _))
              | (rw [if_neg (fun z => z.elim zc111 zc116), if_pos zc126] at hp; exact hp _ _ hM (Eq.symm (bI_f (fun z => z hl))) (hF.ui (by decide) _))
              | (rw [if_neg (fun z => z.elim zc111 zc116), if_neg zc126] at hp; exact hp _ _ hM (Eq.symm (bI_f (fun z => z hl))) (hF.ui (by decide) _))
            · exact absurd rfl zc133
        · refine g_lload dX11_asked_119 rfl ?_
          refine g_goto (tgt := 146) dX11_asked_121 (by decide) ?_
          refine g_lstore (ls' := [_, _, _, _, _, _, _, _, _, _, _, _, _, _, _, _]) dX11_asked_146 (by decide) rfl rfl ?_
          refine g_lload dX11_asked_148 rfl ?_
          refine g_iload_n (i := 1) dX11_asked_150 rfl rfl ?_
          refine g_callSl (My := mX11_low) [_, _] dX11_asked_151 lkX11_105 mvX11_low rfl (c_X11_low _ _) (by decide) (by decide) (by decide) rfl (Nat.le_of_ble_eq_true rfl) (fun zr151 σ zh151 => ?_)
          obtain ⟨rfl, rfl⟩ := zh151
          refine g_lret dX11_asked_154 rfl ?_
          have e : mAns n ws (q, r) = mLow (if ws = 2 ∨ ws = 3 then r else if ws = 4 then 1 else q) n := by
            unfold mAns
            rw [if_pos hl]
          rw [e] at hp
          first
          | (rw [if_pos (Or.inl zc111)] at hp; exact hp _ _ hM (Eq.symm (bI_f (fun z => z hl))) (hF.ui (by decide) _))
          | (rw [if_pos (Or.inr zc116)] at hp; exact hp _ _ hM (Eq.symm (bI_f (fun z => z hl))) (hF.ui (by decide) _))
          | (rw [if_neg (fun z => z.elim zc111 zc116), if_pos zc126] at hp; exact hp _ _ hM (Eq.symm (bI_f (fun z => z hl))) (hF.ui (by decide) _))
          | (rw [if_neg (fun z => z.elim zc111 zc116), if_neg zc126] at hp; exact hp _ _ hM (Eq.symm (bI_f (fun z => z hl))) (hF.ui (by decide) _))
    · exact absurd ((lg_cmp_eq _ _).mpr hl) zc98
  · refine g_aload_n (i := 0) dX11_asked_89 rfl rfl ?_
    refine g_lload dX11_asked_90 rfl ?_
    refine g_iload_n (i := 1) dX11_asked_92 rfl rfl ?_
    refine g_callSl (My := mX11_low) [_, _] dX11_asked_93 lkX11_105 mvX11_low rfl (c_X11_low _ _) (by decide) (by decide) (by decide) rfl (Nat.le_of_ble_eq_true rfl) (fun zr93 σ zh93 => ?_)
    obtain ⟨rfl, rfl⟩ := zh93
    refine g_lconst (v := 0) dX11_asked_96 (by decide) ?_
    refine g_lcmp dX11_asked_97 ?_
    refine g_if_eq (tgt := 105) dX11_asked_98 (by decide) (fun zc98 => ?_) (fun zc98 => ?_)
    · exact absurd ((lg_cmp_eq _ _).mp zc98) hl
    · refine g_iconst (v := 1) dX11_asked_101 (by decide) ?_
      refine g_goto (tgt := 106) dX11_asked_102 (by decide) ?_
      refine gm_putz hM (k := 25) dX11_asked_106 flX11_243 fp9_25 (by decide) (by decide) (fun σ hM => ?_)
      refine g_iload_n (i := 3) dX11_asked_109 rfl rfl ?_
      refine g_iconst (v := 2) dX11_asked_110 (by decide) ?_
      refine g_icmp_eq (tgt := 119) dX11_asked_111 (by decide) (fun zc111 => ?_) (fun zc111 => ?_)
      · refine g_lload dX11_asked_119 rfl ?_
        refine g_goto (tgt := 146) dX11_asked_121 (by decide) ?_
        refine g_lstore (ls' := [_, _, _, _, _, _, _, _, _, _, _, _, _, _, _, _]) dX11_asked_146 (by decide) rfl rfl ?_
        refine g_lload dX11_asked_148 rfl ?_
        refine g_iload_n (i := 1) dX11_asked_150 rfl rfl ?_
        refine g_callSl (My := mX11_low) [_, _] dX11_asked_151 lkX11_105 mvX11_low rfl (c_X11_low _ _) (by decide) (by decide) (by decide) rfl (Nat.le_of_ble_eq_true rfl) (fun zr151 σ zh151 => ?_)
        obtain ⟨rfl, rfl⟩ := zh151
        refine g_lret dX11_asked_154 rfl ?_
        have e : mAns n ws (q, r) = mLow (if ws = 2 ∨ ws = 3 then r else if ws = 4 then 0 else q) n := by
          unfold mAns
          rw [if_neg hl]
        rw [e] at hp
        first
        | (rw [if_pos (Or.inl zc111)] at hp; exact hp _ _ hM (Eq.symm (bI_t hl)) (hF.ui (by decide) _))
        | (rw [if_pos (Or.inr zc116)] at hp; exact hp _ _ hM (Eq.symm (bI_t hl)) (hF.ui (by decide) _))
        | (rw [if_neg (fun z => z.elim zc111 zc116), if_pos zc126] at hp; exact hp _ _ hM (Eq.symm (bI_t hl)) (hF.ui (by decide) _))
        | (rw [if_neg (fun z => z.elim zc111 zc116), if_neg zc126] at hp; exact hp _ _ hM (Eq.symm (bI_t hl)) (hF.ui (by decide) _))
      · refine g_iload_n (i := 3) dX11_asked_114 rfl rfl ?_
        refine g_iconst (v := 3) dX11_asked_115 (by decide) ?_
        refine g_icmp_ne (tgt := 124) dX11_asked_116 (by decide) (fun zc116 => ?_) (fun zc116 => ?_)
        · refine g_iload_n (i := 3) dX11_asked_124 rfl rfl ?_
          refine g_iconst (v := 4) dX11_asked_125 (by decide) ?_
          refine g_icmp_ne (tgt := 144) dX11_asked_126 (by decide) (fun zc126 => ?_) (fun zc126 => ?_)
          · refine g_lload dX11_asked_144 rfl ?_
            refine g_lstore (ls' := [_, _, _, _, _, _, _, _, _, _, _, _, _, _, _, _]) dX11_asked_146 (by decide) rfl rfl ?_
            refine g_lload dX11_asked_148 rfl ?_
            refine g_iload_n (i := 1) dX11_asked_150 rfl rfl ?_
            refine g_callSl (My := mX11_low) [_, _] dX11_asked_151 lkX11_105 mvX11_low rfl (c_X11_low _ _) (by decide) (by decide) (by decide) rfl (Nat.le_of_ble_eq_true rfl) (fun zr151 σ zh151 => ?_)
            obtain ⟨rfl, rfl⟩ := zh151
            refine g_lret dX11_asked_154 rfl ?_
            have e : mAns n ws (q, r) = mLow (if ws = 2 ∨ ws = 3 then r else if ws = 4 then 0 else q) n := by
              unfold mAns
              rw [if_neg hl]
            rw [e] at hp
            first
            | (rw [if_pos (Or.inl zc111)] at hp; exact hp _ _ hM (Eq.symm (bI_t hl)) (hF.ui (by decide) _))
            | (rw [if_pos (Or.inr zc116)] at hp; exact hp _ _ hM (Eq.symm (bI_t hl)) (hF.ui (by decide) _))
            | (rw [if_neg (fun z => z.elim zc111 zc116), if_pos zc126] at hp; exact hp _ _ hM (Eq.symm (bI_t hl)) (hF.ui (by decide) _))
            | (rw [if_neg (fun z => z.elim zc111 zc116), if_neg zc126] at hp; exact hp _ _ hM (Eq.symm (bI_t hl)) (hF.ui (by decide) _))
          · refine g_aload_n (i := 0) dX11_asked_129 rfl rfl ?_
            refine gm_get hM (k := 25) dX11_asked_130 flX11_243 rfl ?_
            refine g_if_eq (tgt := 140) dX11_asked_133 (by decide) (fun zc133 => ?_) (fun zc133 => ?_)
            · exact absurd (show (1 : Int32) = 0 from zc133) (by decide)
            · refine g_lconst (v := 0) dX11_asked_136 (by decide) ?_
              refine g_goto (tgt := 146) dX11_asked_137 (by decide) ?_
              refine g_lstore (ls' := [_, _, _, _, _, _, _, _, _, _, _, _, _, _, _, _]) dX11_asked_146 (by decide) rfl rfl ?_
              refine g_lload dX11_asked_148 rfl ?_
              refine g_iload_n (i := 1) dX11_asked_150 rfl rfl ?_
              refine g_callSl (My := mX11_low) [_, _] dX11_asked_151 lkX11_105 mvX11_low rfl (c_X11_low _ _) (by decide) (by decide) (by decide) rfl (Nat.le_of_ble_eq_true rfl) (fun zr151 σ zh151 => ?_)
              obtain ⟨rfl, rfl⟩ := zh151
              refine g_lret dX11_asked_154 rfl ?_
              have e : mAns n ws (q, r) = mLow (if ws = 2 ∨ ws = 3 then r else if ws = 4 then 0 else q) n := by
                unfold mAns
                rw [if_neg hl]
              rw [e] at hp
              first
              | (rw [if_pos (Or.inl zc111)] at hp; exact hp _ _ hM (Eq.symm (bI_t hl)) (hF.ui (by decide) _))
              | (rw [if_pos (Or.inr zc116)] at hp; exact hp _ _ hM (Eq.symm (bI_t hl)) (hF.ui (by decide) _))
              | (rw [if_neg (fun z => z.elim zc111 zc116), if_pos zc126] at hp; exact hp _ _ hM (Eq.symm (bI_t hl)) (hF.ui (by decide) _))
              | (rw [if_neg (fun z => z.elim zc111 zc116), if_neg zc126] at hp; exact hp _ _ hM (Eq.symm (bI_t hl)) (hF.ui (by decide) _))
        · refine g_lload dX11_asked_119 rfl ?_
          refine g_goto (tgt := 146) dX11_asked_121 (by decide) ?_
          refine g_lstore (ls' := [_, _, _, _, _, _, _, _, _, _, _, _, _, _, _, _]) dX11_asked_146 (by decide) rfl rfl ?_
          refine g_lload dX11_asked_148 rfl ?_
          refine g_iload_n (i := 1) dX11_asked_150 rfl rfl ?_
          refine g_callSl (My := mX11_low) [_, _] dX11_asked_151 lkX11_105 mvX11_low rfl (c_X11_low _ _) (by decide) (by decide) (by decide) rfl (Nat.le_of_ble_eq_true rfl) (fun zr151 σ zh151 => ?_)
          obtain ⟨rfl, rfl⟩ := zh151
          refine g_lret dX11_asked_154 rfl ?_
          have e : mAns n ws (q, r) = mLow (if ws = 2 ∨ ws = 3 then r else if ws = 4 then 0 else q) n := by
            unfold mAns
            rw [if_neg hl]
          rw [e] at hp
          first
          | (rw [if_pos (Or.inl zc111)] at hp; exact hp _ _ hM (Eq.symm (bI_t hl)) (hF.ui (by decide) _))
          | (rw [if_pos (Or.inr zc116)] at hp; exact hp _ _ hM (Eq.symm (bI_t hl)) (hF.ui (by decide) _))
          | (rw [if_neg (fun z => z.elim zc111 zc116), if_pos zc126] at hp; exact hp _ _ hM (Eq.symm (bI_t hl)) (hF.ui (by decide) _))
          | (rw [if_neg (fun z => z.elim zc111 zc116), if_neg zc126] at hp; exact hp _ _ hM (Eq.symm (bI_t hl)) (hF.ui (by decide) _))
theorem c_X11_asked {σ : gH} (hM : Mm σ o ad S) (n sg ws : Int32) (d v : Int64) (hd : sg = 0 ∨ ¬ mSig d n = 0) : Ct l mX11_asked 3 0 0 [.ref o, .int n, .int sg, .int ws, .long d, .long v] σ (pL fun r σ' => r = mAns n ws (aQR n sg ws d v) ∧ ∃ S', Mm σ' o ad S' ∧ S'.1 25 = bI (¬ mLow (aQR n sg ws d v).2 n = 0) ∧ sF S S' [25] [1]) := by
  refine Ct_of moX11_asked [some (.ref o), some (.int n), some (.int sg), some (.int ws), some (.long d), none, some (.long v), none, none, none, none, none, none, none, none, none] rfl (Nat.le_of_ble_eq_true rfl) ?_
  refine g_iload_n (i := 2) dX11_asked_0 rfl rfl ?_
  refine g_if_ne (tgt := 23) dX11_asked_1 (by decide) (fun zc1 => ?_) (fun zc1 => ?_)
  · refine g_lload dX11_asked_23 rfl ?_
    refine g_iload_n (i := 1) dX11_asked_25 rfl rfl ?_
    refine g_callSl (My := mX11_signed) [_, _] dX11_asked_26 lkX11_101 mvX11_signed rfl (c_X11_signed _ _) (by decide) (by decide) (by decide) rfl (Nat.le_of_ble_eq_true rfl) (fun zr26 σ zh26 => ?_)
    obtain ⟨rfl, rfl⟩ := zh26
    refine g_lstore (ls' := [_, _, _, _, _, _, _, _, _, _, _, _, _, _, _, _]) dX11_asked_29 (by decide) rfl rfl ?_
    refine g_lload dX11_asked_31 rfl ?_
    refine g_iload_n (i := 1) dX11_asked_33 rfl rfl ?_
    refine g_callSl (My := mX11_signed) [_, _] dX11_asked_34 lkX11_101 mvX11_signed rfl (c_X11_signed _ _) (by decide) (by decide) (by decide) rfl (Nat.le_of_ble_eq_true rfl) (fun zr34 σ zh34 => ?_)
    obtain ⟨rfl, rfl⟩ := zh34
    refine g_lstore (ls' := [_, _, _, _, _, _, _, _, _, _, _, _, _, _, _, _]) dX11_asked_37 (by decide) rfl rfl ?_
    refine g_aload_n (i := 0) dX11_asked_39 rfl rfl ?_
    refine g_lload dX11_asked_40 rfl ?_
    refine g_lload dX11_asked_42 rfl ?_
    refine g_callVl (My := mX11_signedDivided) [_, _] dX11_asked_44 lkX11_240 mvX11_signedDivided rfl hM.1 rfl (c_X11_signedDivided hM _ _ (hd.elim (fun z => absurd z zc1) (fun z => z))) (by decide) (by decide) (by decide) rfl (Nat.le_of_ble_eq_true rfl) (fun zr44 σ zh44 => ?_)
    obtain ⟨rfl, rfl⟩ := zh44
    refine g_lstore (ls' := [_, _, _, _, _, _, _, _, _, _, _, _, _, _, _, _]) dX11_asked_47 (by decide) rfl rfl ?_
    refine g_lload dX11_asked_49 rfl ?_
    refine g_lload dX11_asked_51 rfl ?_
    refine g_lload dX11_asked_53 rfl ?_
    refine g_lmul dX11_asked_55 ?_
    refine g_lsub dX11_asked_56 ?_
    refine g_lstore (ls' := [_, _, _, _, _, _, _, _, _, _, _, _, _, _, _, _]) dX11_asked_57 (by decide) rfl rfl ?_
    refine g_iload_n (i := 3) dX11_asked_59 rfl rfl ?_
    refine g_iconst (v := 1) dX11_asked_60 (by decide) ?_
    refine g_icmp_eq (tgt := 69) dX11_asked_61 (by decide) (fun zc61 => ?_) (fun zc61 => ?_)
    · refine g_lload dX11_asked_69 rfl ?_
      refine g_lconst (v := 0) dX11_asked_71 (by decide) ?_
      refine g_lcmp dX11_asked_72 ?_
      refine g_if_ge (tgt := 89) dX11_asked_73 (by decide) (fun zc73 => ?_) (fun zc73 => ?_)
      · first
        | (have e : aQR n sg ws d v = (mQuo v d, mRem v d) := by (unfold aQR; rw [if_pos zc1])
           rw [e]
           refine g_fg [some (.ref o), some (.int n), some (.int sg), some (.int ws), some (.long d), none, some (.long v), none, some (.long (mQuo v d)), none, some (.long (mRem v d)), none, none, none, none, none] (by simp [gLe]; rfl) ?_
           exact j_X11_asked (S := S) hM ((sF.rf S _ _).ul (by decide) _) n sg ws d v _ _ (fun σ' S' a b c => ⟨_, rfl, rfl, S', a, b, c⟩))
        | (have e : aQR n sg ws d v = (mSdv (mSig v n) (mSig d n) - 1, mSig v n - mSdv (mSig v n) (mSig d n) * mSig d n + mSig d n) := by
             unfold aQR
             rw [if_neg zc1, if_pos ⟨by first | exact Or.inl zc61 | exact Or.inr zc66, (lg_cmp_lt _ _).mp (Int32.not_le.mp zc73)⟩]
           rw [e]
           refine g_fg [some (.ref o), some (.int n), some (.int sg), some (.int ws), some (.long d), none, some (.long v), none, some (.long _), none, some (.long _), none, none, none, none, none] (by simp [gLe]; exact ⟨rfl, rfl⟩) ?_
           exact j_X11_asked (S := S) hM (sF.rf S _ _) n sg ws d v _ _ (fun σ' S' a b c => ⟨_, rfl, rfl, S', a, b, c⟩))
        | (have e : aQR n sg ws d v = (mSdv (mSig v n) (mSig d n), mSig v n - mSdv (mSig v n) (mSig d n) * mSig d n) := by
             unfold aQR
             rw [if_neg zc1, if_neg (by first | exact (fun z => absurd z.2 (Int64.not_lt.mpr ((lg_cmp_ge _ _).mp zc73))) | exact (fun z => z.1.elim zc61 zc66))]
           rw [e]
           refine g_fg [some (.ref o), some (.int n), some (.int sg), some (.int ws), some (.long d), none, some (.long v), none, some (.long _), none, some (.long _), none, none, none, none, none] (by simp [gLe]; exact ⟨rfl, rfl⟩) ?_
           exact j_X11_asked (S := S) hM (sF.rf S _ _) n sg ws d v _ _ (fun σ' S' a b c => ⟨_, rfl, rfl, S', a, b, c⟩))
      · refine g_lload dX11_asked_76 rfl ?_
        refine g_lconst (v := 1) dX11_asked_78 (by decide) ?_
        refine g_lsub dX11_asked_79 ?_
        refine g_lstore (ls' := [_, _, _, _, _, _, _, _, _, _, _, _, _, _, _, _]) dX11_asked_80 (by decide) rfl rfl ?_
        refine g_lload dX11_asked_82 rfl ?_
        refine g_lload dX11_asked_84 rfl ?_
        refine g_ladd dX11_asked_86 ?_
        refine g_lstore (ls' := [_, _, _, _, _, _, _, _, _, _, _, _, _, _, _, _]) dX11_asked_87 (by decide) rfl rfl ?_
        first
        | (have e : aQR n sg ws d v = (mQuo v d, mRem v d) := by (unfold aQR; rw [if_pos zc1])
           rw [e]
           refine g_fg [some (.ref o), some (.int n), some (.int sg), some (.int ws), some (.long d), none, some (.long v), none, some (.long (mQuo v d)), none, some (.long (mRem v d)), none, none, none, none, none] (by simp [gLe]; rfl) ?_
           exact j_X11_asked (S := S) hM ((sF.rf S _ _).ul (by decide) _) n sg ws d v _ _ (fun σ' S' a b c => ⟨_, rfl, rfl, S', a, b, c⟩))
        | (have e : aQR n sg ws d v = (mSdv (mSig v n) (mSig d n) - 1, mSig v n - mSdv (mSig v n) (mSig d n) * mSig d n + mSig d n) := by
             unfold aQR
             rw [if_neg zc1, if_pos ⟨by first | exact Or.inl zc61 | exact Or.inr zc66, (lg_cmp_lt _ _).mp (Int32.not_le.mp zc73)⟩]
           rw [e]
           refine g_fg [some (.ref o), some (.int n), some (.int sg), some (.int ws), some (.long d), none, some (.long v), none, some (.long _), none, some (.long _), none, none, none, none, none] (by simp [gLe]; exact ⟨rfl, rfl⟩) ?_
           exact j_X11_asked (S := S) hM (sF.rf S _ _) n sg ws d v _ _ (fun σ' S' a b c => ⟨_, rfl, rfl, S', a, b, c⟩))
        | (have e : aQR n sg ws d v = (mSdv (mSig v n) (mSig d n), mSig v n - mSdv (mSig v n) (mSig d n) * mSig d n) := by
             unfold aQR
             rw [if_neg zc1, if_neg (by first | exact (fun z => absurd z.2 (Int64.not_lt.mpr ((lg_cmp_ge _ _).mp zc73))) | exact (fun z => z.1.elim zc61 zc66))]
           rw [e]
           refine g_fg [some (.ref o), some (.int n), some (.int sg), some (.int ws), some (.long d), none, some (.long v), none, some (.long _), none, some (.long _), none, none, none, none, none] (by simp [gLe]; exact ⟨rfl, rfl⟩) ?_
           exact j_X11_asked (S := S) hM (sF.rf S _ _) n sg ws d v _ _ (fun σ' S' a b c => ⟨_, rfl, rfl, S', a, b, c⟩))
    · refine g_iload_n (i := 3) dX11_asked_64 rfl rfl ?_
      refine g_iconst (v := 3) dX11_asked_65 (by decide) ?_
      refine g_icmp_ne (tgt := 89) dX11_asked_66 (by decide) (fun zc66 => ?_) (fun zc66 => ?_)
      · first
        | (have e : aQR n sg ws d v = (mQuo v d, mRem v d) := by (unfold aQR; rw [if_pos zc1])
           rw [e]
           refine g_fg [some (.ref o), some (.int n), some (.int sg), some (.int ws), some (.long d), none, some (.long v), none, some (.long (mQuo v d)), none, some (.long (mRem v d)), none, none, none, none, none] (by simp [gLe]; rfl) ?_
           exact j_X11_asked (S := S) hM ((sF.rf S _ _).ul (by decide) _) n sg ws d v _ _ (fun σ' S' a b c => ⟨_, rfl, rfl, S', a, b, c⟩))
        | (have e : aQR n sg ws d v = (mSdv (mSig v n) (mSig d n) - 1, mSig v n - mSdv (mSig v n) (mSig d n) * mSig d n + mSig d n) := by
             unfold aQR
             rw [if_neg zc1, if_pos ⟨by first | exact Or.inl zc61 | exact Or.inr zc66, (lg_cmp_lt _ _).mp (Int32.not_le.mp zc73)⟩]
           rw [e]
           refine g_fg [some (.ref o), some (.int n), some (.int sg), some (.int ws), some (.long d), none, some (.long v), none, some (.long _), none, some (.long _), none, none, none, none, none] (by simp [gLe]; exact ⟨rfl, rfl⟩) ?_
           exact j_X11_asked (S := S) hM (sF.rf S _ _) n sg ws d v _ _ (fun σ' S' a b c => ⟨_, rfl, rfl, S', a, b, c⟩))
        | (have e : aQR n sg ws d v = (mSdv (mSig v n) (mSig d n), mSig v n - mSdv (mSig v n) (mSig d n) * mSig d n) := by
             unfold aQR
             rw [if_neg zc1, if_neg (by first | exact (fun z => absurd z.2 (Int64.not_lt.mpr ((lg_cmp_ge _ _).mp zc73))) | exact (fun z => z.1.elim zc61 zc66))]
           rw [e]
           refine g_fg [some (.ref o), some (.int n), some (.int sg), some (.int ws), some (.long d), none, some (.long v), none, some (.long _), none, some (.long _), none, none, none, none, none] (by simp [gLe]; exact ⟨rfl, rfl⟩) ?_
           exact j_X11_asked (S := S) hM (sF.rf S _ _) n sg ws d v _ _ (fun σ' S' a b c => ⟨_, rfl, rfl, S', a, b, c⟩))
      · refine g_lload dX11_asked_69 rfl ?_
        refine g_lconst (v := 0) dX11_asked_71 (by decide) ?_
        refine g_lcmp dX11_asked_72 ?_
        refine g_if_ge (tgt := 89) dX11_asked_73 (by decide) (fun zc73 => ?_) (fun zc73 => ?_)
        · first
          | (have e : aQR n sg ws d v = (mQuo v d, mRem v d) := by (unfold aQR; rw [if_pos zc1])
             rw [e]
             refine g_fg [some (.ref o), some (.int n), some (.int sg), some (.int ws), some (.long d), none, some (.long v), none, some (.long (mQuo v d)), none, some (.long (mRem v d)), none, none, none, none, none] (by simp [gLe]; rfl) ?_
             exact j_X11_asked (S := S) hM ((sF.rf S _ _).ul (by decide) _) n sg ws d v _ _ (fun σ' S' a b c => ⟨_, rfl, rfl, S', a, b, c⟩))
          | (have e : aQR n sg ws d v = (mSdv (mSig v n) (mSig d n) - 1, mSig v n - mSdv (mSig v n) (mSig d n) * mSig d n + mSig d n) := by
               unfold aQR
               rw [if_neg zc1, if_pos ⟨by first | exact Or.inl zc61 | exact Or.inr zc66, (lg_cmp_lt _ _).mp (Int32.not_le.mp zc73)⟩]
             rw [e]
             refine g_fg [some (.ref o), some (.int n), some (.int sg), some (.int ws), some (.long d), none, some (.long v), none, some (.long _), none, some (.long _), none, none, none, none, none] (by simp [gLe]; exact ⟨rfl, rfl⟩) ?_
             exact j_X11_asked (S := S) hM (sF.rf S _ _) n sg ws d v _ _ (fun σ' S' a b c => ⟨_, rfl, rfl, S', a, b, c⟩))
          | (have e : aQR n sg ws d v = (mSdv (mSig v n) (mSig d n), mSig v n - mSdv (mSig v n) (mSig d n) * mSig d n) := by
               unfold aQR
               rw [if_neg zc1, if_neg (by first | exact (fun z => absurd z.2 (Int64.not_lt.mpr ((lg_cmp_ge _ _).mp zc73))) | exact (fun z => z.1.elim zc61 zc66))]
             rw [e]
             refine g_fg [some (.ref o), some (.int n), some (.int sg), some (.int ws), some (.long d), none, some (.long v), none, some (.long _), none, some (.long _), none, none, none, none, none] (by simp [gLe]; exact ⟨rfl, rfl⟩) ?_
             exact j_X11_asked (S := S) hM (sF.rf S _ _) n sg ws d v _ _ (fun σ' S' a b c => ⟨_, rfl, rfl, S', a, b, c⟩))
        · refine g_lload dX11_asked_76 rfl ?_
          refine g_lconst (v := 1) dX11_asked_78 (by decide) ?_
          refine g_lsub dX11_asked_79 ?_
          refine g_lstore (ls' := [_, _, _, _, _, _, _, _, _, _, _, _, _, _, _, _]) dX11_asked_80 (by decide) rfl rfl ?_
          refine g_lload dX11_asked_82 rfl ?_
          refine g_lload dX11_asked_84 rfl ?_
          refine g_ladd dX11_asked_86 ?_
          refine g_lstore (ls' := [_, _, _, _, _, _, _, _, _, _, _, _, _, _, _, _]) dX11_asked_87 (by decide) rfl rfl ?_
          first
          | (have e : aQR n sg ws d v = (mQuo v d, mRem v d) := by (unfold aQR; rw [if_pos zc1])
             rw [e]
             refine g_fg [some (.ref o), some (.int n), some (.int sg), some (.int ws), some (.long d), none, some (.long v), none, some (.long (mQuo v d)), none, some (.long (mRem v d)), none, none, none, none, none] (by simp [gLe]; rfl) ?_
             exact j_X11_asked (S := S) hM ((sF.rf S _ _).ul (by decide) _) n sg ws d v _ _ (fun σ' S' a b c => ⟨_, rfl, rfl, S', a, b, c⟩))
          | (have e : aQR n sg ws d v = (mSdv (mSig v n) (mSig d n) - 1, mSig v n - mSdv (mSig v n) (mSig d n) * mSig d n + mSig d n) := by
               unfold aQR
               rw [if_neg zc1, if_pos ⟨by first | exact Or.inl zc61 | exact Or.inr zc66, (lg_cmp_lt _ _).mp (Int32.not_le.mp zc73)⟩]
             rw [e]
             refine g_fg [some (.ref o), some (.int n), some (.int sg), some (.int ws), some (.long d), none, some (.long v), none, some (.long _), none, some (.long _), none, none, none, none, none] (by simp [gLe]; exact ⟨rfl, rfl⟩) ?_
             exact j_X11_asked (S := S) hM (sF.rf S _ _) n sg ws d v _ _ (fun σ' S' a b c => ⟨_, rfl, rfl, S', a, b, c⟩))
          | (have e : aQR n sg ws d v = (mSdv (mSig v n) (mSig d n), mSig v n - mSdv (mSig v n) (mSig d n) * mSig d n) := by
               unfold aQR
               rw [if_neg zc1, if_neg (by first | exact (fun z => absurd z.2 (Int64.not_lt.mpr ((lg_cmp_ge _ _).mp zc73))) | exact (fun z => z.1.elim zc61 zc66))]
             rw [e]
             refine g_fg [some (.ref o), some (.int n), some (.int sg), some (.int ws), some (.long d), none, some (.long v), none, some (.long _), none, some (.long _), none, none, none, none, none] (by simp [gLe]; exact ⟨rfl, rfl⟩) ?_
             exact j_X11_asked (S := S) hM (sF.rf S _ _) n sg ws d v _ _ (fun σ' S' a b c => ⟨_, rfl, rfl, S', a, b, c⟩))
  · refine g_aload_n (i := 0) dX11_asked_4 rfl rfl ?_
    refine g_lload dX11_asked_5 rfl ?_
    refine g_lload dX11_asked_7 rfl ?_
    refine g_callVl (My := mX11_quotient) [_, _] dX11_asked_9 lkX11_180 mvX11_quotient rfl hM.1 rfl (c_X11_quotient hM _ _) (by decide) (by decide) (by decide) rfl (Nat.le_of_ble_eq_true rfl) (fun zr9 σ zh9 => ?_)
    obtain ⟨ze9, hM⟩ := zh9
    rw [ze9]
    refine g_lstore (ls' := [_, _, _, _, _, _, _, _, _, _, _, _, _, _, _, _]) dX11_asked_12 (by decide) rfl rfl ?_
    refine g_aload_n (i := 0) dX11_asked_14 rfl rfl ?_
    refine gm_get hM (k := 1) dX11_asked_15 flX11_112 rfl ?_
    refine g_lstore (ls' := [_, _, _, _, _, _, _, _, _, _, _, _, _, _, _, _]) dX11_asked_18 (by decide) rfl rfl ?_
    refine g_goto (tgt := 89) dX11_asked_20 (by decide) ?_
    first
    | (have e : aQR n sg ws d v = (mQuo v d, mRem v d) := by (unfold aQR; rw [if_pos zc1])
       rw [e]
       refine g_fg [some (.ref o), some (.int n), some (.int sg), some (.int ws), some (.long d), none, some (.long v), none, some (.long (mQuo v d)), none, some (.long (mRem v d)), none, none, none, none, none] (by simp [gLe]; rfl) ?_
       exact j_X11_asked (S := S) hM ((sF.rf S _ _).ul (by decide) _) n sg ws d v _ _ (fun σ' S' a b c => ⟨_, rfl, rfl, S', a, b, c⟩))
    | (have e : aQR n sg ws d v = (mSdv (mSig v n) (mSig d n) - 1, mSig v n - mSdv (mSig v n) (mSig d n) * mSig d n + mSig d n) := by
         unfold aQR
         rw [if_neg zc1, if_pos ⟨by first | exact Or.inl zc61 | exact Or.inr zc66, (lg_cmp_lt _ _).mp (Int32.not_le.mp zc73)⟩]
       rw [e]
       refine g_fg [some (.ref o), some (.int n), some (.int sg), some (.int ws), some (.long d), none, some (.long v), none, some (.long _), none, some (.long _), none, none, none, none, none] (by simp [gLe]; exact ⟨rfl, rfl⟩) ?_
       exact j_X11_asked (S := S) hM (sF.rf S _ _) n sg ws d v _ _ (fun σ' S' a b c => ⟨_, rfl, rfl, S', a, b, c⟩))
    | (have e : aQR n sg ws d v = (mSdv (mSig v n) (mSig d n), mSig v n - mSdv (mSig v n) (mSig d n) * mSig d n) := by
         unfold aQR
         rw [if_neg zc1, if_neg (by first | exact (fun z => absurd z.2 (Int64.not_lt.mpr ((lg_cmp_ge _ _).mp zc73))) | exact (fun z => z.1.elim zc61 zc66))]
       rw [e]
       refine g_fg [some (.ref o), some (.int n), some (.int sg), some (.int ws), some (.long d), none, some (.long v), none, some (.long _), none, some (.long _), none, none, none, none, none] (by simp [gLe]; exact ⟨rfl, rfl⟩) ?_
       exact j_X11_asked (S := S) hM (sF.rf S _ _) n sg ws d v _ _ (fun σ' S' a b c => ⟨_, rfl, rfl, S', a, b, c⟩))
noncomputable def sPlain (w sg ws : Int32) (d v : Int64) : Int64 := by
  classical
  exact if mIsA w sg ws d then mAns w ws (aQR w sg ws (mLow d w) (mLow v w)) else 0
end CMask
