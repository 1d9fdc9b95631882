/-! the reference: plain and signed division, what find() finds -/
def gLe : List (Option Value) → List (Option Value) → Prop
  | [], _ => True
  | none :: t, _ :: u => gLe t u
  | some v :: t, w :: u => w = some v ∧ gLe t u
  | _ :: _, [] => False
theorem gLe_at : ∀ (a b : List (Option Value)), gLe a b → ∀ (k : Nat) (v : Value), a[k]? = some (some v) → b[k]? = some (some v)
  | [], _, _, k, v, h => by simp at h
  | none :: t, [], g, k, v, h => by cases g
  | none :: t, w :: u, g, 0, v, h => by simp at h
  | none :: t, w :: u, g, k + 1, v, h => by simpa using gLe_at t u g k v (by simpa using h)
  | some x :: t, [], g, k, v, h => by cases g
  | some x :: t, w :: u, g, 0, v, h => by
    obtain ⟨g1, -⟩ := g
    simp at h
    subst h
    simp [g1]
  | some x :: t, w :: u, g, k + 1, v, h => by simpa using gLe_at t u g.2 k v (by simpa using h)
theorem g_fg {l : Launch} {M : gM} {d bc bs : Nat} {post : Option Value → gH → Prop} {σ : gH} {pc : Nat} {ls : List (Option Value)} {st : List Value} (ls' : List (Option Value)) (h : gLe ls' ls) (k : G l M d bc bs post σ pc ls' st) : G l M d bc bs post σ pc ls st := by
  intro p e R s m args below meth c D aC A k0 n0 X H locs cells slots lsA hH hS h1 h2 h3 h4 hl
  refine k p e R s m args below meth c D aC A k0 n0 X H locs cells slots lsA hH hS h1 h2 h3 h4 ⟨hl.1, hl.2.1, fun q hq => ?_⟩
  have h5 := ((gLv_mem ls' 0 q.1 q.2).mp hq).2
  exact hl.2.2 q ((gLv_mem ls 0 q.1 q.2).mpr ⟨Nat.zero_le _, by simpa using gLe_at ls' ls h q.1 q.2 (by simpa using h5)⟩)
/-- what of the reference's state changes: but for these int fields and long fields nothing -/
def sF (S S' : mS) (ki kl : List Nat) : Prop := (∀ k, k ∉ ki → S'.1 k = S.1 k) ∧ (∀ k, k ∉ kl → S'.2.1 k = S.2.1 k) ∧ S'.2.2 = S.2.2
theorem sF.rf (S : mS) (ki kl : List Nat) : sF S S ki kl := ⟨fun _ _ => rfl, fun _ _ => rfl, rfl⟩
theorem sF.ui {S S' : mS} {ki kl : List Nat} (h : sF S S' ki kl) {k : Nat} (hk : k ∈ ki) (v : Int32) : sF S (ui S' k v) ki kl := ⟨fun j hj => by rw [← h.1 j hj]; exact va_up_ne _ _ (fun e => hj (e ▸ hk)), h.2.1, h.2.2⟩
theorem sF.ul {S S' : mS} {ki kl : List Nat} (h : sF S S' ki kl) {k : Nat} (hk : k ∈ kl) (v : Int64) : sF S (ul S' k v) ki kl := ⟨h.1, fun j hj => by rw [← h.2.1 j hj]; exact va_up_ne _ _ (fun e => hj (e ▸ hk)), h.2.2⟩
theorem sF.tr {S S' S'' : mS} {ki kl ki' kl' : List Nat} (h : sF S S' ki kl) (h' : sF S' S'' ki' kl') (hi : ∀ k ∈ ki', k ∈ ki) (hl : ∀ k ∈ kl', k ∈ kl) : sF S S'' ki kl := ⟨fun k hk => (h'.1 k (fun q => hk (hi k q))).trans (h.1 k hk), fun k hk => (h'.2.1 k (fun q => hk (hl k q))).trans (h.2.1 k hk), h'.2.2.trans h.2.2⟩
theorem i01 {x : Int32} (h : ¬ x < 0) (h' : ¬ 1 < x) : x = 0 ∨ x = 1 := by
  simp only [Int32.lt_iff_toInt_lt] at h h'
  have h0 : (0 : Int32).toInt = 0 := by decide
  have h1 : (1 : Int32).toInt = 1 := by decide
  rw [h0] at h
  rw [h1] at h'
  rcases (show x.toInt = 0 ∨ x.toInt = 1 by omega) with q | q
  · exact Or.inl (Int32.toInt_inj.mp (q.trans h0.symm))
  · exact Or.inr (Int32.toInt_inj.mp (q.trans h1.symm))
def mSdv (a b : Int64) : Int64 := if b = -1 then -a else a / b
def mIsA (w sg ws : Int32) (dv : Int64) : Prop := isW w ∧ (sg = 0 ∨ sg = 1) ∧ (0 ≤ ws ∧ ws ≤ 5) ∧ ¬ mLow dv w = 0 ∧ (sg = 0 ∨ (ws ≠ 1 ∧ ws ≠ 3) ∨ ¬ mUp (mLow dv w) w)
def isTz (s : Int64) (z : Nat) : Prop := z < 64 ∧ ¬ (gUshr s (nI z) &&& 1 = 0) ∧ ∀ j, j < z → gUshr s (nI j) &&& 1 = 0
def mSz (w sg : Int32) (dv : Int64) : Int64 := if sg = 1 ∧ mUp (mLow dv w) w then mLow (-(mLow dv w)) w else mLow dv w
def fLp (n more : Int32) (D : Int64) : Nat → Int64 → Int64 → Int32 → Int32 → Int64 × Int64 × Int32 × Int32
  | 0, q, r, hg, mv => (q, r, hg, mv)
  | f + 1, q, r, hg, mv => if 63 < mv + more ∨ ¬ bLt (gShl 1 (mv + more)) (D - r) then (q, r, hg, mv) else if ¬ bLt r (D - r) then fLp n more D f (mLow (gShl q 1) n ||| 1) (r - (D - r)) ((gUshr q (n - 1) &&& 1).toInt32 + 2 * hg) (mv + 1) else fLp n more D f (mLow (gShl q 1) n ||| 0) (2 * r) ((gUshr q (n - 1) &&& 1).toInt32 + 2 * hg) (mv + 1)
termination_by f => f
theorem fLp_0 {n more : Int32} {D : Int64} {f : Nat} {q r : Int64} {hg mv : Int32} (h : 63 < mv + more ∨ ¬ bLt (gShl 1 (mv + more)) (D - r)) : fLp n more D (f + 1) q r hg mv = (q, r, hg, mv) := by
  rw [fLp, if_pos h]
theorem fLp_t {n more : Int32} {D : Int64} {f : Nat} {q r : Int64} {hg mv : Int32} (h : ¬ (63 < mv + more ∨ ¬ bLt (gShl 1 (mv + more)) (D - r))) (h2 : ¬ bLt r (D - r)) : fLp n more D (f + 1) q r hg mv = fLp n more D f (mLow (gShl q 1) n ||| 1) (r - (D - r)) ((gUshr q (n - 1) &&& 1).toInt32 + 2 * hg) (mv + 1) := by
  rw [fLp, if_neg h, if_pos h2]
theorem fLp_f {n more : Int32} {D : Int64} {f : Nat} {q r : Int64} {hg mv : Int32} (h : ¬ (63 < mv + more ∨ ¬ bLt (gShl 1 (mv + more)) (D - r))) (h2 : bLt r (D - r)) : fLp n more D (f + 1) q r hg mv = fLp n more D f (mLow (gShl q 1) n ||| 0) (2 * r) ((gUshr q (n - 1) &&& 1).toInt32 + 2 * hg) (mv + 1) := by
  rw [fLp, if_neg h, if_neg (fun z => z h2)]
def fRes (n more : Int32) (D : Int64) : Int64 × Int64 × Int32 × Int32 := fLp n more D 65 (if n = 64 then mQuo (-D) D + 1 else mQuo (gShl 1 n) D) (if n = 64 then mRem (-D) D else mRem (gShl 1 n) D) 0 0
def fMoved (n more : Int32) (D : Int64) : Int32 := (fRes n more D).2.2.2
def fFactor (n more : Int32) (D : Int64) : Int64 := mLow ((fRes n more D).1 + 1) n
def fOver (n more : Int32) (D : Int64) : Int32 := (fRes n more D).2.2.1 + (if fFactor n more D = 0 then 1 else 0)
def fMiss (n more : Int32) (D : Int64) : Int64 := D - (fRes n more D).2.1
section CMnum
variable {l : Launch} {σ : gH} {o : Nat} {ad : Nat → Nat} {S : mS}
theorem c_X11_signedDivided (hM : Mm σ o ad S) (a b : Int64) (hb : ¬ b = 0) : Ct l mX11_signedDivided 1 0 0 [.ref o, .long a, .long b] σ (pL fun r σ' => r = mSdv a b ∧ σ' = σ) := by
  refine Ct_of moX11_signedDivided [some (.ref o), some (.long a), none, some (.long b), none] rfl (Nat.le_of_ble_eq_true rfl) ?_
  refine g_lload_n (i := 3) dX11_signedDivided_0 rfl rfl ?_
  refine g_ldc2 (v := (-1)) dX11_signedDivided_1 klX11_202 ?_
  refine g_lcmp dX11_signedDivided_4 ?_
  refine g_if_ne (tgt := 13) dX11_signedDivided_5 (by decide) (fun zc5 => ?_) (fun zc5 => ?_)
  · refine g_lload_n (i := 1) dX11_signedDivided_13 rfl rfl ?_
    refine g_lload_n (i := 3) dX11_signedDivided_14 rfl rfl ?_
    refine g_ldiv dX11_signedDivided_15 (by assumption) ?_
    refine g_lret dX11_signedDivided_16 rfl ?_
    exact ⟨_, rfl, by simp_all [mSdv, lg_cmp_eq], rfl⟩
  · refine g_lload_n (i := 1) dX11_signedDivided_8 rfl rfl ?_
    refine g_lneg dX11_signedDivided_9 ?_
    refine g_goto (tgt := 16) dX11_signedDivided_10 (by decide) ?_
    refine g_lret dX11_signedDivided_16 rfl ?_
    exact ⟨_, rfl, by simp_all [mSdv, lg_cmp_eq], rfl⟩
theorem c_X11_isAsking (hM : Mm σ o ad S) (w sg ws : Int32) (dv : Int64) : Ct l mX11_isAsking 2 0 0 [.ref o, .int w, .int sg, .int ws, .long dv] σ (pI fun r σ' => r = bI (mIsA w sg ws dv) ∧ σ' = σ) := by
  refine Ct_of moX11_isAsking [some (.ref o), some (.int w), some (.int sg), some (.int ws), some (.long dv), none] rfl (Nat.le_of_ble_eq_true rfl) ?_
  refine g_iload_n (i := 1) dX11_isAsking_0 rfl rfl ?_
  refine g_callSi (My := mX11_isWidth) [_] dX11_isAsking_1 lkX11_153 mvX11_isWidth rfl (c_X11_isWidth _) (by decide) (by decide) (by decide) rfl (Nat.le_of_ble_eq_true rfl) (fun zr1 σ zh1 => ?_)
  obtain ⟨rfl, rfl⟩ := zh1
  refine g_if_eq (tgt := 36) dX11_isAsking_4 (by decide) (fun zc4 => ?_) (fun zc4 => ?_)
  · refine g_iconst (v := 0) dX11_isAsking_36 (by decide) ?_
    refine g_zret dX11_isAsking_37 rfl (rfl) ?_
    first
    | exact ⟨_, rfl, (Eq.symm (bI_f (fun z => z.2.2.2.1 ((lg_cmp_eq _ _).mp zc33)))), rfl⟩
    | exact ⟨_, rfl, (Eq.symm (bI_f (fun z => absurd zc22 (Int32.not_lt.mpr z.2.2.1.2)))), rfl⟩
    | exact ⟨_, rfl, (Eq.symm (bI_f (fun z => absurd zc17 (Int32.not_lt.mpr z.2.2.1.1)))), rfl⟩
    | exact ⟨_, rfl, (Eq.symm (bI_f (fun z => z.2.1.elim (fun q => absurd (q ▸ zc13) (by decide)) (fun q => absurd (q ▸ zc13) (by decide))))), rfl⟩
    | exact ⟨_, rfl, (Eq.symm (bI_f (fun z => z.2.1.elim (fun q => absurd (q ▸ zc8) (by decide)) (fun q => absurd (q ▸ zc8) (by decide))))), rfl⟩
    | exact ⟨_, rfl, (Eq.symm (bI_f (fun z => bI_eq0.mp zc4 z.1))), rfl⟩
  · refine g_iload_n (i := 2) dX11_isAsking_7 rfl rfl ?_
    refine g_if_lt (tgt := 36) dX11_isAsking_8 (by decide) (fun zc8 => ?_) (fun zc8 => ?_)
    · refine g_iconst (v := 0) dX11_isAsking_36 (by decide) ?_
      refine g_zret dX11_isAsking_37 rfl (rfl) ?_
      first
      | exact ⟨_, rfl, (Eq.symm (bI_f (fun z => z.2.2.2.1 ((lg_cmp_eq _ _).mp zc33)))), rfl⟩
      | exact ⟨_, rfl, (Eq.symm (bI_f (fun z => absurd zc22 (Int32.not_lt.mpr z.2.2.1.2)))), rfl⟩
      | exact ⟨_, rfl, (Eq.symm (bI_f (fun z => absurd zc17 (Int32.not_lt.mpr z.2.2.1.1)))), rfl⟩
      | exact ⟨_, rfl, (Eq.symm (bI_f (fun z => z.2.1.elim (fun q => absurd (q ▸ zc13) (by decide)) (fun q => absurd (q ▸ zc13) (by decide))))), rfl⟩
      | exact ⟨_, rfl, (Eq.symm (bI_f (fun z => z.2.1.elim (fun q => absurd (q ▸ zc8) (by decide)) (fun q => absurd (q ▸ zc8) (by decide))))), rfl⟩
      | exact ⟨_, rfl, (Eq.symm (bI_f (fun z => bI_eq0.mp zc4 z.1))), rfl⟩
    · refine g_iload_n (i := 2) dX11_isAsking_11 rfl rfl ?_
      refine g_iconst (v := 1) dX11_isAsking_12 (by decide) ?_
      refine g_icmp_gt (tgt := 36) dX11_isAsking_13 (by decide) (fun zc13 => ?_) (fun zc13 => ?_)
      · refine g_iconst (v := 0) dX11_isAsking_36 (by decide) ?_
        refine g_zret dX11_isAsking_37 rfl (rfl) ?_
        first
        | exact ⟨_, rfl, (Eq.symm (bI_f (fun z => z.2.2.2.1 ((lg_cmp_eq _ _).mp zc33)))), rfl⟩
        | exact ⟨_, rfl, (Eq.symm (bI_f (fun z => absurd zc22 (Int32.not_lt.mpr z.2.2.1.2)))), rfl⟩
        | exact ⟨_, rfl, (Eq.symm (bI_f (fun z => absurd zc17 (Int32.not_lt.mpr z.2.2.1.1)))), rfl⟩
        | exact ⟨_, rfl, (Eq.symm (bI_f (fun z => z.2.1.elim (fun q => absurd (q ▸ zc13) (by decide)) (fun q => absurd (q ▸ zc13) (by decide))))), rfl⟩
        | exact ⟨_, rfl, (Eq.symm (bI_f (fun z => z.2.1.elim (fun q => absurd (q ▸ zc8) (by decide)) (fun q => absurd (q ▸ zc8) (by decide))))), rfl⟩
        | exact ⟨_, rfl, (Eq.symm (bI_f (fun z => bI_eq0.mp zc4 z.1))), rfl⟩
      · refine g_iload_n (i := 3) dX11_isAsking_16 rfl rfl ?_
        refine g_if_lt (tgt := 36) dX11_isAsking_17 (by decide) (fun zc17 => ?_) (fun zc17 => ?_)
        · refine g_iconst (v := 0) dX11_isAsking_36 (by decide) ?_
          refine g_zret dX11_isAsking_37 rfl (rfl) ?_
          first
          | exact ⟨_, rfl, (Eq.symm (bI_f (fun z => z.2.2.2.1 ((lg_cmp_eq _ _).mp zc33)))), rfl⟩
          | exact ⟨_, rfl, (Eq.symm (bI_f (fun z => absurd zc22 (Int32.not_lt.mpr z.2.2.1.2)))), rfl⟩
          | exact ⟨_, rfl, (Eq.symm (bI_f (fun z => absurd zc17 (Int32.not_lt.mpr z.2.2.1.1)))), rfl⟩
          | exact ⟨_, rfl, (Eq.symm (bI_f (fun z => z.2.1.elim (fun q => absurd (q ▸ zc13) (by decide)) (fun q => absurd (q ▸ zc13) (by decide))))), rfl⟩
          | exact ⟨_, rfl, (Eq.symm (bI_f (fun z => z.2.1.elim (fun q => absurd (q ▸ zc8) (by decide)) (fun q => absurd (q ▸ zc8) (by decide))))), rfl⟩
          | exact ⟨_, rfl, (Eq.symm (bI_f (fun z => bI_eq0.mp zc4 z.1))), rfl⟩
        · refine g_iload_n (i := 3) dX11_isAsking_20 rfl rfl ?_
          refine g_iconst (v := 5) dX11_isAsking_21 (by decide) ?_
          refine g_icmp_gt (tgt := 36) dX11_isAsking_22 (by decide) (fun zc22 => ?_) (fun zc22 => ?_)
          · refine g_iconst (v := 0) dX11_isAsking_36 (by decide) ?_
            refine g_zret dX11_isAsking_37 rfl (rfl) ?_
            first
            | exact ⟨_, rfl, (Eq.symm (bI_f (fun z => z.2.2.2.1 ((lg_cmp_eq _ _).mp zc33)))), rfl⟩
            | exact ⟨_, rfl, (Eq.symm (bI_f (fun z => absurd zc22 (Int32.not_lt.mpr z.2.2.1.2)))), rfl⟩
            | exact ⟨_, rfl, (Eq.symm (bI_f (fun z => absurd zc17 (Int32.not_lt.mpr z.2.2.1.1)))), rfl⟩
            | exact ⟨_, rfl, (Eq.symm (bI_f (fun z => z.2.1.elim (fun q => absurd (q ▸ zc13) (by decide)) (fun q => absurd (q ▸ zc13) (by decide))))), rfl⟩
            | exact ⟨_, rfl, (Eq.symm (bI_f (fun z => z.2.1.elim (fun q => absurd (q ▸ zc8) (by decide)) (fun q => absurd (q ▸ zc8) (by decide))))), rfl⟩
            | exact ⟨_, rfl, (Eq.symm (bI_f (fun z => bI_eq0.mp zc4 z.1))), rfl⟩
          · refine g_lload dX11_isAsking_25 rfl ?_
            refine g_iload_n (i := 1) dX11_isAsking_27 rfl rfl ?_
            refine g_callSl (My := mX11_low) [_, _] dX11_isAsking_28 lkX11_105 mvX11_low rfl (c_X11_low _ _) (by decide) (by decide) (by decide) rfl (Nat.le_of_ble_eq_true rfl) (fun zr28 σ zh28 => ?_)
            obtain ⟨rfl, rfl⟩ := zh28
            refine g_lconst (v := 0) dX11_isAsking_31 (by decide) ?_
            refine g_lcmp dX11_isAsking_32 ?_
            refine g_if_ne (tgt := 38) dX11_isAsking_33 (by decide) (fun zc33 => ?_) (fun zc33 => ?_)
            · refine g_iload_n (i := 2) dX11_isAsking_38 rfl rfl ?_
              refine g_if_eq (tgt := 65) dX11_isAsking_39 (by decide) (fun zc39 => ?_) (fun zc39 => ?_)
              · refine g_iconst (v := 1) dX11_isAsking_65 (by decide) ?_
                refine g_goto (tgt := 70) dX11_isAsking_66 (by decide) ?_
                refine g_zret dX11_isAsking_70 rfl (rfl) ?_
                first
                | exact ⟨_, rfl, (Eq.symm (bI_t ⟨bI_ne0.mp zc4, i01 zc8 zc13, ⟨Int32.not_lt.mp zc17, Int32.not_lt.mp zc22⟩, fun q => zc33 ((lg_cmp_eq _ _).mpr q), Or.inl zc39⟩)), rfl⟩
                | exact ⟨_, rfl, (Eq.symm (bI_t ⟨bI_ne0.mp zc4, i01 zc8 zc13, ⟨Int32.not_lt.mp zc17, Int32.not_lt.mp zc22⟩, fun q => zc33 ((lg_cmp_eq _ _).mpr q), Or.inr (Or.inl ⟨zc44, zc49⟩)⟩)), rfl⟩
                | exact ⟨_, rfl, (Eq.symm (bI_t ⟨bI_ne0.mp zc4, i01 zc8 zc13, ⟨Int32.not_lt.mp zc17, Int32.not_lt.mp zc22⟩, fun q => zc33 ((lg_cmp_eq _ _).mpr q), Or.inr (Or.inr (bI_eq0.mp zc62))⟩)), rfl⟩
                | exact ⟨_, rfl, (Eq.symm (bI_f (fun z => z.2.2.2.2.elim zc39 (fun q => q.elim (fun q => q.1 zc44) (fun q => q (bI_ne0.mp zc62)))))), rfl⟩
                | exact ⟨_, rfl, (Eq.symm (bI_f (fun z => z.2.2.2.2.elim zc39 (fun q => q.elim (fun q => q.2 zc49) (fun q => q (bI_ne0.mp zc62)))))), rfl⟩
              · refine g_iload_n (i := 3) dX11_isAsking_42 rfl rfl ?_
                refine g_iconst (v := 1) dX11_isAsking_43 (by decide) ?_
                refine g_icmp_eq (tgt := 52) dX11_isAsking_44 (by decide) (fun zc44 => ?_) (fun zc44 => ?_)
                · refine g_lload dX11_isAsking_52 rfl ?_
                  refine g_iload_n (i := 1) dX11_isAsking_54 rfl rfl ?_
                  refine g_callSl (My := mX11_low) [_, _] dX11_isAsking_55 lkX11_105 mvX11_low rfl (c_X11_low _ _) (by decide) (by decide) (by decide) rfl (Nat.le_of_ble_eq_true rfl) (fun zr55 σ zh55 => ?_)
                  obtain ⟨rfl, rfl⟩ := zh55
                  refine g_iload_n (i := 1) dX11_isAsking_58 rfl rfl ?_
                  refine g_callSi (My := mX11_isUp) [_, _] dX11_isAsking_59 lkX11_128 mvX11_isUp rfl (c_X11_isUp _ _) (by decide) (by decide) (by decide) rfl (Nat.le_of_ble_eq_true rfl) (fun zr59 σ zh59 => ?_)
                  obtain ⟨rfl, rfl⟩ := zh59
                  refine g_if_ne (tgt := 69) dX11_isAsking_62 (by decide) (fun zc62 => ?_) (fun zc62 => ?_)
                  · refine g_iconst (v := 0) dX11_isAsking_69 (by decide) ?_
                    refine g_zret dX11_isAsking_70 rfl (rfl) ?_
                    first
                    | exact ⟨_, rfl, (Eq.symm (bI_t ⟨bI_ne0.mp zc4, i01 zc8 zc13, ⟨Int32.not_lt.mp zc17, Int32.not_lt.mp zc22⟩, fun q => zc33 ((lg_cmp_eq _ _).mpr q), Or.inl zc39⟩)), rfl⟩
                    | exact ⟨_, rfl, (Eq.symm (bI_t ⟨bI_ne0.mp zc4, i01 zc8 zc13, ⟨Int32.not_lt.mp zc17, Int32.not_lt.mp zc22⟩, fun q => zc33 ((lg_cmp_eq _ _).mpr q), Or.inr (Or.inl ⟨zc44, zc49⟩)⟩)), rfl⟩
                    | exact ⟨_, rfl, (Eq.symm (bI_t ⟨bI_ne0.mp zc4, i01 zc8 zc13, ⟨Int32.not_lt.mp zc17, Int32.not_lt.mp zc22⟩, fun q => zc33 ((lg_cmp_eq _ _).mpr q), Or.inr (Or.inr (bI_eq0.mp zc62))⟩)), rfl⟩
                    | exact ⟨_, rfl, (Eq.symm (bI_f (fun z => z.2.2.2.2.elim zc39 (fun q => q.elim (fun q => q.1 zc44) (fun q => q (bI_ne0.mp zc62)))))), rfl⟩
                    | exact ⟨_, rfl, (Eq.symm (bI_f (fun z => z.2.2.2.2.elim zc39 (fun q => q.elim (fun q => q.2 zc49) (fun q => q (bI_ne0.mp zc62)))))), rfl⟩
                  · refine g_iconst (v := 1) dX11_isAsking_65 (by decide) ?_
                    refine g_goto (tgt := 70) dX11_isAsking_66 (by decide) ?_
                    refine g_zret dX11_isAsking_70 rfl (rfl) ?_
                    first
                    | exact ⟨_, rfl, (Eq.symm (bI_t ⟨bI_ne0.mp zc4, i01 zc8 zc13, ⟨Int32.not_lt.mp zc17, Int32.not_lt.mp zc22⟩, fun q => zc33 ((lg_cmp_eq _ _).mpr q), Or.inl zc39⟩)), rfl⟩
                    | exact ⟨_, rfl, (Eq.symm (bI_t ⟨bI_ne0.mp zc4, i01 zc8 zc13, ⟨Int32.not_lt.mp zc17, Int32.not_lt.mp zc22⟩, fun q => zc33 ((lg_cmp_eq _ _).mpr q), Or.inr (Or.inl ⟨zc44, zc49⟩)⟩)), rfl⟩
                    | exact ⟨_, rfl, (Eq.symm (bI_t ⟨bI_ne0.mp zc4, i01 zc8 zc13, ⟨Int32.not_lt.mp zc17, Int32.not_lt.mp zc22⟩, fun q => zc33 ((lg_cmp_eq _ _).mpr q), Or.inr (Or.inr (bI_eq0.mp zc62))⟩)), rfl⟩
                    | exact ⟨_, rfl, (Eq.symm (bI_f (fun z => z.2.2.2.2.elim zc39 (fun q => q.elim (fun q => q.1 zc44) (fun q => q (bI_ne0.mp zc62)))))), rfl⟩
                    | exact ⟨_, rfl, (Eq.symm (bI_f (fun z => z.2.2.2.2.elim zc39 (fun q => q.elim (fun q => q.2 zc49) (fun q => q (bI_ne0.mp zc62)))))), rfl⟩
                · refine g_iload_n (i := 3) dX11_isAsking_47 rfl rfl ?_
                  refine g_iconst (v := 3) dX11_isAsking_48 (by decide) ?_
                  refine g_icmp_ne (tgt := 65) dX11_isAsking_49 (by decide) (fun zc49 => ?_) (fun zc49 => ?_)
                  · refine g_iconst (v := 1) dX11_isAsking_65 (by decide) ?_
                    refine g_goto (tgt := 70) dX11_isAsking_66 (by decide) ?_
                    refine g_zret dX11_isAsking_70 rfl (rfl) ?_
                    first
                    | exact ⟨_, rfl, (Eq.symm (bI_t ⟨bI_ne0.mp zc4, i01 zc8 zc13, ⟨Int32.not_lt.mp zc17, Int32.not_lt.mp zc22⟩, fun q => zc33 ((lg_cmp_eq _ _).mpr q), Or.inl zc39⟩)), rfl⟩
                    | exact ⟨_, rfl, (Eq.symm (bI_t ⟨bI_ne0.mp zc4, i01 zc8 zc13, ⟨Int32.not_lt.mp zc17, Int32.not_lt.mp zc22⟩, fun q => zc33 ((lg_cmp_eq _ _).mpr q), Or.inr (Or.inl ⟨zc44, zc49⟩)⟩)), rfl⟩
                    | exact ⟨_, rfl, (Eq.symm (bI_t ⟨bI_ne0.mp zc4, i01 zc8 zc13, ⟨Int32.not_lt.mp zc17, Int32.not_lt.mp zc22⟩, fun q => zc33 ((lg_cmp_eq _ _).mpr q), Or.inr (Or.inr (bI_eq0.mp zc62))⟩)), rfl⟩
                    | exact ⟨_, rfl, (Eq.symm (bI_f (fun z => z.2.2.2.2.elim zc39 (fun q => q.elim (fun q => q.1 zc44) (fun q => q (bI_ne0.mp zc62)))))), rfl⟩
                    | exact ⟨_, rfl, (Eq.symm (bI_f (fun z => z.2.2.2.2.elim zc39 (fun q => q.elim (fun q => q.2 zc49) (fun q => q (bI_ne0.mp zc62)))))), rfl⟩
                  · refine g_lload dX11_isAsking_52 rfl ?_
                    refine g_iload_n (i := 1) dX11_isAsking_54 rfl rfl ?_
                    refine g_callSl (My := mX11_low) [_, _] dX11_isAsking_55 lkX11_105 mvX11_low rfl (c_X11_low _ _) (by decide) (by decide) (by decide) rfl (Nat.le_of_ble_eq_true rfl) (fun zr55 σ zh55 => ?_)
                    obtain ⟨rfl, rfl⟩ := zh55
                    refine g_iload_n (i := 1) dX11_isAsking_58 rfl rfl ?_
                    refine g_callSi (My := mX11_isUp) [_, _] dX11_isAsking_59 lkX11_128 mvX11_isUp rfl (c_X11_isUp _ _) (by decide) (by decide) (by decide) rfl (Nat.le_of_ble_eq_true rfl) (fun zr59 σ zh59 => ?_)
                    obtain ⟨rfl, rfl⟩ := zh59
                    refine g_if_ne (tgt := 69) dX11_isAsking_62 (by decide) (fun zc62 => ?_) (fun zc62 => ?_)
                    · refine g_iconst (v := 0) dX11_isAsking_69 (by decide) ?_
                      refine g_zret dX11_isAsking_70 rfl (rfl) ?_
                      first
                      | exact ⟨_, rfl, (Eq.symm (bI_t ⟨bI_ne0.mp zc4, i01 zc8 zc13, ⟨Int32.not_lt.mp zc17, Int32.not_lt.mp zc22⟩, fun q => zc33 ((lg_cmp_eq _ _).mpr q), Or.inl zc39⟩)), rfl⟩
                      | exact ⟨_, rfl, (Eq.symm (bI_t ⟨bI_ne0.mp zc4, i01 zc8 zc13, ⟨Int32.not_lt.mp zc17, Int32.not_lt.mp zc22⟩, fun q => zc33 ((lg_cmp_eq _ _).mpr q), Or.inr (Or.inl ⟨zc44, zc49⟩)⟩)), rfl⟩
                      | exact ⟨_, rfl, (Eq.symm (bI_t ⟨bI_ne0.mp zc4, i01 zc8 zc13, ⟨Int32.not_lt.mp zc17, Int32.not_lt.mp zc22⟩, fun q => zc33 ((lg_cmp_eq _ _).mpr q), Or.inr (Or.inr (bI_eq0.mp zc62))⟩)), rfl⟩
                      | exact ⟨_, rfl, (Eq.symm (bI_f (fun z => z.2.2.2.2.elim zc39 (fun q => q.elim (fun q => q.1 zc44) (fun q => q (bI_ne0.mp zc62)))))), rfl⟩
                      | exact ⟨_, rfl, (Eq.symm (bI_f (fun z => z.2.2.2.2.elim zc39 (fun q => q.elim (fun q => q.2 zc49) (fun q => q (bI_ne0.mp zc62)))))), rfl⟩
                    · refine g_iconst (v := 1) dX11_isAsking_65 (by decide) ?_
                      refine g_goto (tgt := 70) dX11_isAsking_66 (by decide) ?_
                      refine g_zret dX11_isAsking_70 rfl (rfl) ?_
                      first
                      | exact ⟨_, rfl, (Eq.symm (bI_t ⟨bI_ne0.mp zc4, i01 zc8 zc13, ⟨Int32.not_lt.mp zc17, Int32.not_lt.mp zc22⟩, fun q => zc33 ((lg_cmp_eq _ _).mpr q), Or.inl zc39⟩)), rfl⟩
                      | exact ⟨_, rfl, (Eq.symm (bI_t ⟨bI_ne0.mp zc4, i01 zc8 zc13, ⟨Int32.not_lt.mp zc17, Int32.not_lt.mp zc22⟩, fun q => zc33 ((lg_cmp_eq _ _).mpr q), Or.inr (Or.inl ⟨zc44, zc49⟩)⟩)), rfl⟩
                      | exact ⟨_, rfl, (Eq.symm (bI_t ⟨bI_ne0.mp zc4, i01 zc8 zc13, ⟨Int32.not_lt.mp zc17, Int32.not_lt.mp zc22⟩, fun q => zc33 ((lg_cmp_eq _ _).mpr q), Or.inr (Or.inr (bI_eq0.mp zc62))⟩)), rfl⟩
                      | exact ⟨_, rfl, (Eq.symm (bI_f (fun z => z.2.2.2.2.elim zc39 (fun q => q.elim (fun q => q.1 zc44) (fun q => q (bI_ne0.mp zc62)))))), rfl⟩
                      | exact ⟨_, rfl, (Eq.symm (bI_f (fun z => z.2.2.2.2.elim zc39 (fun q => q.elim (fun q => q.2 zc49) (fun q => q (bI_ne0.mp zc62)))))), rfl⟩
            · refine g_iconst (v := 0) dX11_isAsking_36 (by decide) ?_
              refine g_zret dX11_isAsking_37 rfl (rfl) ?_
              first
              | exact ⟨_, rfl, (Eq.symm (bI_f (fun z => z.2.2.2.1 ((lg_cmp_eq _ _).mp zc33)))), rfl⟩
              | exact ⟨_, rfl, (Eq.symm (bI_f (fun z => absurd zc22 (Int32.not_lt.mpr z.2.2.1.2)))), rfl⟩
              | exact ⟨_, rfl, (Eq.symm (bI_f (fun z => absurd zc17 (Int32.not_lt.mpr z.2.2.1.1)))), rfl⟩
              | exact ⟨_, rfl, (Eq.symm (bI_f (fun z => z.2.1.elim (fun q => absurd (q ▸ zc13) (by decide)) (fun q => absurd (q ▸ zc13) (by decide))))), rfl⟩
              | exact ⟨_, rfl, (Eq.symm (bI_f (fun z => z.2.1.elim (fun q => absurd (q ▸ zc8) (by decide)) (fun q => absurd (q ▸ zc8) (by decide))))), rfl⟩
              | exact ⟨_, rfl, (Eq.symm (bI_f (fun z => bI_eq0.mp zc4 z.1))), rfl⟩
theorem lp_X11_take (w sg : Int32) (dv v5 : Int64) (z : Nat) {post : Option Value → gH → Prop} {sz : Int64} (hz : isTz sz z) : ∀ (n : Nat) (σ : gH) (S' : mS) (j : Nat), Mm σ o ad S' → j + n = z → S'.2.1 18 = sz → S'.1 19 = nI j → sF S S' [19] [18, 20] → (∀ σ' S'', Mm σ' o ad S'' → S''.2.1 18 = sz → S''.1 19 = nI z → S''.2.1 20 = gUshr sz (nI z) → sF S S'' [19] [18, 20] → post none σ') → G l mX11_take 2 0 0 post σ 42 [some (.ref o), some (.int w), some (.int sg), some (.long dv), none, some (.long v5), none] [] := by
  intro n
  induction n with
  | zero =>
    intro σ S' j hM hj h18 h19 hF hp
    obtain rfl : j = z := by omega
    refine g_aload_n (i := 0) dX11_take_42 rfl rfl ?_
    refine gm_get hM (k := 18) dX11_take_43 flX11_171 rfl ?_
    refine g_aload_n (i := 0) dX11_take_46 rfl rfl ?_
    refine gm_get hM (k := 19) dX11_take_47 flX11_174 rfl ?_
    refine g_lushr dX11_take_50 ?_
    refine g_lconst (v := 1) dX11_take_51 (by decide) ?_
    refine g_land dX11_take_52 ?_
    refine g_lconst (v := 0) dX11_take_53 (by decide) ?_
    refine g_lcmp dX11_take_54 ?_
    refine g_if_ne (tgt := 71) dX11_take_55 (by decide) (fun zc55 => ?_) (fun zc55 => ?_)
    · refine g_aload_n (i := 0) dX11_take_71 rfl rfl ?_
      refine g_aload_n (i := 0) dX11_take_72 rfl rfl ?_
      refine gm_get hM (k := 18) dX11_take_73 flX11_171 rfl ?_
      refine g_aload_n (i := 0) dX11_take_76 rfl rfl ?_
      refine gm_get hM (k := 19) dX11_take_77 flX11_174 rfl ?_
      refine g_lushr dX11_take_80 ?_
      refine gm_putl hM (k := 20) dX11_take_81 flX11_177 fp9_20 (by decide) (fun σ hM => ?_)
      refine g_vret dX11_take_84 rfl ?_
      exact hp _ _ hM h18 h19 (by rw [← h18, ← h19]; rfl) (hF.ul (by decide) _)
    · exact absurd (by rw [lg_cmp_eq, h18, h19] at zc55; exact zc55) hz.2.1
  | succ n ih =>
    intro σ S' j hM hj h18 h19 hF hp
    refine g_aload_n (i := 0) dX11_take_42 rfl rfl ?_
    refine gm_get hM (k := 18) dX11_take_43 flX11_171 rfl ?_
    refine g_aload_n (i := 0) dX11_take_46 rfl rfl ?_
    refine gm_get hM (k := 19) dX11_take_47 flX11_174 rfl ?_
    refine g_lushr dX11_take_50 ?_
    refine g_lconst (v := 1) dX11_take_51 (by decide) ?_
    refine g_land dX11_take_52 ?_
    refine g_lconst (v := 0) dX11_take_53 (by decide) ?_
    refine g_lcmp dX11_take_54 ?_
    refine g_if_ne (tgt := 71) dX11_take_55 (by decide) (fun zc55 => ?_) (fun zc55 => ?_)
    · exact absurd (by rw [lg_cmp_eq, h18, h19]; exact hz.2.2 j (by omega)) zc55
    · refine g_aload_n (i := 0) dX11_take_58 rfl rfl ?_
      refine g_dup dX11_take_59 rfl ?_
      refine gm_get hM (k := 19) dX11_take_60 flX11_174 rfl ?_
      refine g_iconst (v := 1) dX11_take_63 (by decide) ?_
      refine g_iadd dX11_take_64 ?_
      refine gm_puti hM (k := 19) dX11_take_65 flX11_174 fp9_19 (by decide) (fun σ hM => ?_)
      refine g_goto (tgt := 42) dX11_take_68 (by decide) ?_
      exact ih _ _ (j + 1) hM (by omega) h18 (by show S'.1 19 + 1 = _; rw [h19]; exact nI_1 j) (hF.ui (by decide) _) hp
theorem c_X11_take (hM : Mm σ o ad S) (w sg : Int32) (dv : Int64) (z : Nat) (hz : isTz (mSz w sg dv) z) : Ct l mX11_take 2 0 0 [.ref o, .int w, .int sg, .long dv] σ (pV fun σ' => ∃ S', Mm σ' o ad S' ∧ S'.2.1 18 = mSz w sg dv ∧ S'.1 19 = nI z ∧ S'.2.1 20 = gUshr (mSz w sg dv) (nI z) ∧ sF S S' [19] [18, 20]) := by
  refine Ct_of moX11_take [some (.ref o), some (.int w), some (.int sg), some (.long dv), none, none, none] rfl (Nat.le_of_ble_eq_true rfl) ?_
  refine g_lload_n (i := 3) dX11_take_0 rfl rfl ?_
  refine g_iload_n (i := 1) dX11_take_1 rfl rfl ?_
  refine g_callSl (My := mX11_low) [_, _] dX11_take_2 lkX11_105 mvX11_low rfl (c_X11_low _ _) (by decide) (by decide) (by decide) rfl (Nat.le_of_ble_eq_true rfl) (fun zr2 σ zh2 => ?_)
  obtain ⟨rfl, rfl⟩ := zh2
  refine g_lstore (ls' := [_, _, _, _, _, _, _]) dX11_take_5 (by decide) rfl rfl ?_
  refine g_aload_n (i := 0) dX11_take_7 rfl rfl ?_
  refine g_iload_n (i := 2) dX11_take_8 rfl rfl ?_
  refine g_iconst (v := 1) dX11_take_9 (by decide) ?_
  refine g_icmp_ne (tgt := 32) dX11_take_10 (by decide) (fun zc10 => ?_) (fun zc10 => ?_)
  · refine g_lload dX11_take_32 rfl ?_
    refine gm_putl hM (k := 18) dX11_take_34 flX11_171 fp9_18 (by decide) (fun σ hM => ?_)
    refine g_aload_n (i := 0) dX11_take_37 rfl rfl ?_
    refine g_iconst (v := 0) dX11_take_38 (by decide) ?_
    refine gm_puti hM (k := 19) dX11_take_39 flX11_174 fp9_19 (by decide) (fun σ hM => ?_)
    exact lp_X11_take (S := S) w sg dv _ z hz z _ _ 0 hM (by omega) (by (try simp only [bI_eq0, bI_ne0] at *); simp_all [mSz, ui, ul, va_up]) rfl (((sF.rf S _ _).ul (by decide) _).ui (by decide) _) (fun σ' S'' a b c d e => ⟨rfl, S'', a, b, c, d, e⟩)
  · refine g_lload dX11_take_13 rfl ?_
    refine g_iload_n (i := 1) dX11_take_15 rfl rfl ?_
    refine g_callSi (My := mX11_isUp) [_, _] dX11_take_16 lkX11_128 mvX11_isUp rfl (c_X11_isUp _ _) (by decide) (by decide) (by decide) rfl (Nat.le_of_ble_eq_true rfl) (fun zr16 σ zh16 => ?_)
    obtain ⟨rfl, rfl⟩ := zh16
    refine g_if_eq (tgt := 32) dX11_take_19 (by decide) (fun zc19 => ?_) (fun zc19 => ?_)
    · refine g_lload dX11_take_32 rfl ?_
      refine gm_putl hM (k := 18) dX11_take_34 flX11_171 fp9_18 (by decide) (fun σ hM => ?_)
      refine g_aload_n (i := 0) dX11_take_37 rfl rfl ?_
      refine g_iconst (v := 0) dX11_take_38 (by decide) ?_
      refine gm_puti hM (k := 19) dX11_take_39 flX11_174 fp9_19 (by decide) (fun σ hM => ?_)
      exact lp_X11_take (S := S) w sg dv _ z hz z _ _ 0 hM (by omega) (by (try simp only [bI_eq0, bI_ne0] at *); simp_all [mSz, ui, ul, va_up]) rfl (((sF.rf S _ _).ul (by decide) _).ui (by decide) _) (fun σ' S'' a b c d e => ⟨rfl, S'', a, b, c, d, e⟩)
    · refine g_lload dX11_take_22 rfl ?_
      refine g_lneg dX11_take_24 ?_
      refine g_iload_n (i := 1) dX11_take_25 rfl rfl ?_
      refine g_callSl (My := mX11_low) [_, _] dX11_take_26 lkX11_105 mvX11_low rfl (c_X11_low _ _) (by decide) (by decide) (by decide) rfl (Nat.le_of_ble_eq_true rfl) (fun zr26 σ zh26 => ?_)
      obtain ⟨rfl, rfl⟩ := zh26
      refine g_goto (tgt := 34) dX11_take_29 (by decide) ?_
      refine gm_putl hM (k := 18) dX11_take_34 flX11_171 fp9_18 (by decide) (fun σ hM => ?_)
      refine g_aload_n (i := 0) dX11_take_37 rfl rfl ?_
      refine g_iconst (v := 0) dX11_take_38 (by decide) ?_
      refine gm_puti hM (k := 19) dX11_take_39 flX11_174 fp9_19 (by decide) (fun σ hM => ?_)
      exact lp_X11_take (S := S) w sg dv _ z hz z _ _ 0 hM (by omega) (by (try simp only [bI_eq0, bI_ne0] at *); simp_all [mSz, ui, ul, va_up]) rfl (((sF.rf S _ _).ul (by decide) _).ui (by decide) _) (fun σ' S'' a b c d e => ⟨rfl, S'', a, b, c, d, e⟩)
theorem lp_X11_find (n more : Int32) (hmo : more = 0 ∨ more = 1) {D : Int64} {post : Option Value → gH → Prop} : ∀ (f : Nat) (σ : gH) (S' : mS) (q r : Int64) (hg : Int32) (j : Nat) (x8 x9 : Option Value), gN2 [none, x8] 2 = true → gN2 [none, x9] 2 = true → Mm σ o ad S' → j + f = 65 → S'.2.1 18 = D → S'.1 23 = nI j → sF S S' [22, 23] [1, 21, 24] →
    (∀ σ' S'', Mm σ' o ad S'' → S''.1 23 = (fLp n more D f q r hg (nI j)).2.2.2 → S''.2.1 24 = D - (fLp n more D f q r hg (nI j)).2.1 → S''.2.1 21 = mLow ((fLp n more D f q r hg (nI j)).1 + 1) n → S''.1 22 = (fLp n more D f q r hg (nI j)).2.2.1 + (if mLow ((fLp n more D f q r hg (nI j)).1 + 1) n = 0 then 1 else 0) → sF S S'' [22, 23] [1, 21, 24] → post none σ') → G l mX11_find 3 0 0 post σ 51 [some (.ref o), some (.int n), some (.int more), some (.long q), none, some (.long r), none, some (.int hg), x8, x9] [] := by
  intro f
  induction f with
  | zero =>
    intro σ S' q r hg j x8 x9 hx8 hx9 hM hj h18 h23 hF hp
    obtain rfl : j = 65 := by omega
    simp only [fLp] at hp
    refine g_aload_n (i := 0) dX11_find_51 rfl rfl ?_
    refine g_aload_n (i := 0) dX11_find_52 rfl rfl ?_
    refine gm_get hM (k := 18) dX11_find_53 flX11_171 rfl ?_
    refine g_lload dX11_find_56 rfl ?_
    refine g_lsub dX11_find_58 ?_
    refine gm_putl hM (k := 24) dX11_find_59 flX11_186 fp9_24 (by decide) (fun σ hM => ?_)
    refine g_aload_n (i := 0) dX11_find_62 rfl rfl ?_
    refine gm_get hM (k := 23) dX11_find_63 flX11_183 rfl ?_
    refine g_iload_n (i := 2) dX11_find_66 rfl rfl ?_
    refine g_iadd dX11_find_67 ?_
    refine g_istore (ls' := [_, _, _, _, _, _, _, _, _, _]) dX11_find_68 (by decide) rfl rfl ?_
    refine g_iload dX11_find_70 rfl ?_
    refine g_bipush (v := 63) dX11_find_72 (by decide) ?_
    refine g_icmp_gt (tgt := 189) dX11_find_74 (by decide) (fun zc74 => ?_) (fun zc74 => ?_)
    · refine g_aload_n (i := 0) dX11_find_189 rfl rfl ?_
      refine g_lload_n (i := 3) dX11_find_190 rfl rfl ?_
      refine g_lconst (v := 1) dX11_find_191 (by decide) ?_
      refine g_ladd dX11_find_192 ?_
      refine g_iload_n (i := 1) dX11_find_193 rfl rfl ?_
      refine g_callSl (My := mX11_low) [_, _] dX11_find_194 lkX11_105 mvX11_low rfl (c_X11_low _ _) (by decide) (by decide) (by decide) rfl (Nat.le_of_ble_eq_true rfl) (fun zr194 σ zh194 => ?_)
      obtain ⟨rfl, rfl⟩ := zh194
      refine gm_putl hM (k := 21) dX11_find_197 flX11_189 fp9_21 (by decide) (fun σ hM => ?_)
      refine g_aload_n (i := 0) dX11_find_200 rfl rfl ?_
      refine g_iload dX11_find_201 rfl ?_
      refine g_aload_n (i := 0) dX11_find_203 rfl rfl ?_
      refine gm_get hM (k := 21) dX11_find_204 flX11_189 rfl ?_
      refine g_lconst (v := 0) dX11_find_207 (by decide) ?_
      refine g_lcmp dX11_find_208 ?_
      refine g_if_ne (tgt := 216) dX11_find_209 (by decide) (fun zc209 => ?_) (fun zc209 => ?_)
      · refine g_iconst (v := 0) dX11_find_216 (by decide) ?_
        refine g_iadd dX11_find_217 ?_
        refine gm_puti hM (k := 22) dX11_find_218 flX11_192 fp9_22 (by decide) (fun σ hM => ?_)
        refine g_vret dX11_find_221 rfl ?_
        refine hp _ _ hM ?_ ?_ ?_ ?_ ((((hF.ul (by decide) _).ul (by decide) _).ui (by decide) _))
        · exact h23
        · show S'.2.1 18 - r = _; rw [h18]
        · rfl
        · (try simp only [lg_cmp_eq] at *); simp_all [ui, ul, va_up]
      · refine g_iconst (v := 1) dX11_find_212 (by decide) ?_
        refine g_goto (tgt := 217) dX11_find_213 (by decide) ?_
        refine g_iadd dX11_find_217 ?_
        refine gm_puti hM (k := 22) dX11_find_218 flX11_192 fp9_22 (by decide) (fun σ hM => ?_)
        refine g_vret dX11_find_221 rfl ?_
        refine hp _ _ hM ?_ ?_ ?_ ?_ ((((hF.ul (by decide) _).ul (by decide) _).ui (by decide) _))
        · exact h23
        · show S'.2.1 18 - r = _; rw [h18]
        · rfl
        · (try simp only [lg_cmp_eq] at *); simp_all [ui, ul, va_up]
    · exact absurd (by show (63 : Int32) < S'.1 23 + more; rw [h23]; rcases hmo with rfl | rfl <;> decide) zc74
  | succ f ih =>
    intro σ S' q r hg j x8 x9 hx8 hx9 hM hj h18 h23 hF hp
    refine g_aload_n (i := 0) dX11_find_51 rfl rfl ?_
    refine g_aload_n (i := 0) dX11_find_52 rfl rfl ?_
    refine gm_get hM (k := 18) dX11_find_53 flX11_171 rfl ?_
    refine g_lload dX11_find_56 rfl ?_
    refine g_lsub dX11_find_58 ?_
    refine gm_putl hM (k := 24) dX11_find_59 flX11_186 fp9_24 (by decide) (fun σ hM => ?_)
    refine g_aload_n (i := 0) dX11_find_62 rfl rfl ?_
    refine gm_get hM (k := 23) dX11_find_63 flX11_183 rfl ?_
    refine g_iload_n (i := 2) dX11_find_66 rfl rfl ?_
    refine g_iadd dX11_find_67 ?_
    refine g_istore (ls' := [_, _, _, _, _, _, _, _, _, _]) dX11_find_68 (by decide) rfl rfl ?_
    refine g_iload dX11_find_70 rfl ?_
    refine g_bipush (v := 63) dX11_find_72 (by decide) ?_
    refine g_icmp_gt (tgt := 189) dX11_find_74 (by decide) (fun zc74 => ?_) (fun zc74 => ?_)
    · refine g_aload_n (i := 0) dX11_find_189 rfl rfl ?_
      refine g_lload_n (i := 3) dX11_find_190 rfl rfl ?_
      refine g_lconst (v := 1) dX11_find_191 (by decide) ?_
      refine g_ladd dX11_find_192 ?_
      refine g_iload_n (i := 1) dX11_find_193 rfl rfl ?_
      refine g_callSl (My := mX11_low) [_, _] dX11_find_194 lkX11_105 mvX11_low rfl (c_X11_low _ _) (by decide) (by decide) (by decide) rfl (Nat.le_of_ble_eq_true rfl) (fun zr194 σ zh194 => ?_)
      obtain ⟨rfl, rfl⟩ := zh194
      refine gm_putl hM (k := 21) dX11_find_197 flX11_189 fp9_21 (by decide) (fun σ hM => ?_)
      refine g_aload_n (i := 0) dX11_find_200 rfl rfl ?_
      refine g_iload dX11_find_201 rfl ?_
      refine g_aload_n (i := 0) dX11_find_203 rfl rfl ?_
      refine gm_get hM (k := 21) dX11_find_204 flX11_189 rfl ?_
      refine g_lconst (v := 0) dX11_find_207 (by decide) ?_
      refine g_lcmp dX11_find_208 ?_
      refine g_if_ne (tgt := 216) dX11_find_209 (by decide) (fun zc209 => ?_) (fun zc209 => ?_)
      · refine g_iconst (v := 0) dX11_find_216 (by decide) ?_
        refine g_iadd dX11_find_217 ?_
        refine gm_puti hM (k := 22) dX11_find_218 flX11_192 fp9_22 (by decide) (fun σ hM => ?_)
        refine g_vret dX11_find_221 rfl ?_
        have hc : 63 < nI j + more ∨ ¬ bLt (gShl 1 (nI j + more)) (D - r) := by
          rw [← h23, ← h18]
          first | exact Or.inl zc74 | exact Or.inr (bI_eq0.mp zc88)
        rw [fLp_0 hc] at hp
        refine hp _ _ hM h23 (by show S'.2.1 18 - r = _; rw [h18]) rfl ?_ ((((hF.ul (by decide) _).ul (by decide) _).ui (by decide) _))
        first
        | (rw [if_pos (show mLow (q + 1) n = 0 from (lg_cmp_eq _ _).mp zc209)]; rfl)
        | (rw [if_neg (show ¬ mLow (q + 1) n = 0 from fun z => zc209 ((lg_cmp_eq _ _).mpr z))]; rfl)
      · refine g_iconst (v := 1) dX11_find_212 (by decide) ?_
        refine g_goto (tgt := 217) dX11_find_213 (by decide) ?_
        refine g_iadd dX11_find_217 ?_
        refine gm_puti hM (k := 22) dX11_find_218 flX11_192 fp9_22 (by decide) (fun σ hM => ?_)
        refine g_vret dX11_find_221 rfl ?_
        have hc : 63 < nI j + more ∨ ¬ bLt (gShl 1 (nI j + more)) (D - r) := by
          rw [← h23, ← h18]
          first | exact Or.inl zc74 | exact Or.inr (bI_eq0.mp zc88)
        rw [fLp_0 hc] at hp
        refine hp _ _ hM h23 (by show S'.2.1 18 - r = _; rw [h18]) rfl ?_ ((((hF.ul (by decide) _).ul (by decide) _).ui (by decide) _))
        first
        | (rw [if_pos (show mLow (q + 1) n = 0 from (lg_cmp_eq _ _).mp zc209)]; rfl)
        | (rw [if_neg (show ¬ mLow (q + 1) n = 0 from fun z => zc209 ((lg_cmp_eq _ _).mpr z))]; rfl)
    · refine g_lconst (v := 1) dX11_find_77 (by decide) ?_
      refine g_iload dX11_find_78 rfl ?_
      refine g_lshl dX11_find_80 ?_
      refine g_aload_n (i := 0) dX11_find_81 rfl rfl ?_
      refine gm_get hM (k := 24) dX11_find_82 flX11_186 rfl ?_
      refine g_callSi (My := mX11_isUnder) [_, _] dX11_find_85 lkX11_108 mvX11_isUnder rfl (c_X11_isUnder _ _) (by decide) (by decide) (by decide) rfl (Nat.le_of_ble_eq_true rfl) (fun zr85 σ zh85 => ?_)
      obtain ⟨rfl, rfl⟩ := zh85
      refine g_if_ne (tgt := 94) dX11_find_88 (by decide) (fun zc88 => ?_) (fun zc88 => ?_)
      · refine g_lload dX11_find_94 rfl ?_
        refine g_aload_n (i := 0) dX11_find_96 rfl rfl ?_
        refine gm_get hM (k := 18) dX11_find_97 flX11_171 rfl ?_
        refine g_lload dX11_find_100 rfl ?_
        refine g_lsub dX11_find_102 ?_
        refine g_callSi (My := mX11_isUnder) [_, _] dX11_find_103 lkX11_108 mvX11_isUnder rfl (c_X11_isUnder _ _) (by decide) (by decide) (by decide) rfl (Nat.le_of_ble_eq_true rfl) (fun zr103 σ zh103 => ?_)
        obtain ⟨rfl, rfl⟩ := zh103
        refine g_if_ne (tgt := 113) dX11_find_106 (by decide) (fun zc106 => ?_) (fun zc106 => ?_)
        · refine g_iconst (v := 0) dX11_find_113 (by decide) ?_
          refine g_istore (ls' := [_, _, _, _, _, _, _, _, _, _]) dX11_find_114 (by decide) rfl rfl ?_
          refine g_lload_n (i := 3) dX11_find_116 rfl rfl ?_
          refine g_iload_n (i := 1) dX11_find_117 rfl rfl ?_
          refine g_iconst (v := 1) dX11_find_118 (by decide) ?_
          refine g_isub dX11_find_119 ?_
          refine g_lushr dX11_find_120 ?_
          refine g_lconst (v := 1) dX11_find_121 (by decide) ?_
          refine g_land dX11_find_122 ?_
          refine g_l2i dX11_find_123 ?_
          refine g_iconst (v := 2) dX11_find_124 (by decide) ?_
          refine g_iload dX11_find_125 rfl ?_
          refine g_imul dX11_find_127 ?_
          refine g_iadd dX11_find_128 ?_
          refine g_istore (ls' := [_, _, _, _, _, _, _, _, _, _]) dX11_find_129 (by decide) rfl rfl ?_
          refine g_lload_n (i := 3) dX11_find_131 rfl rfl ?_
          refine g_iconst (v := 1) dX11_find_132 (by decide) ?_
          refine g_lshl dX11_find_133 ?_
          refine g_iload_n (i := 1) dX11_find_134 rfl rfl ?_
          refine g_callSl (My := mX11_low) [_, _] dX11_find_135 lkX11_105 mvX11_low rfl (c_X11_low _ _) (by decide) (by decide) (by decide) rfl (Nat.le_of_ble_eq_true rfl) (fun zr135 σ zh135 => ?_)
          obtain ⟨rfl, rfl⟩ := zh135
          refine g_iload dX11_find_138 rfl ?_
          refine g_if_eq (tgt := 147) dX11_find_140 (by decide) (fun zc140 => ?_) (fun zc140 => ?_)
          · refine g_lconst (v := 0) dX11_find_147 (by decide) ?_
            refine g_lor dX11_find_148 ?_
            refine g_lstore_n (i := 3) (ls' := [_, _, _, _, _, _, _, _, _, _]) dX11_find_149 rfl (by decide) rfl rfl ?_
            refine g_iload dX11_find_150 rfl ?_
            refine g_if_eq (tgt := 168) dX11_find_152 (by decide) (fun zc152 => ?_) (fun zc152 => ?_)
            · refine g_ldc2 (v := 2) dX11_find_168 klX11_116 ?_
              refine g_lload dX11_find_171 rfl ?_
              refine g_lmul dX11_find_173 ?_
              refine g_lstore (ls' := [_, _, _, _, _, _, _, _, _, _]) dX11_find_174 (by decide) rfl rfl ?_
              refine g_aload_n (i := 0) dX11_find_176 rfl rfl ?_
              refine g_dup dX11_find_177 rfl ?_
              refine gm_get hM (k := 23) dX11_find_178 flX11_183 rfl ?_
              refine g_iconst (v := 1) dX11_find_181 (by decide) ?_
              refine g_iadd dX11_find_182 ?_
              refine gm_puti hM (k := 23) dX11_find_183 flX11_183 fp9_23 (by decide) (fun σ hM => ?_)
              refine g_goto (tgt := 51) dX11_find_186 (by decide) ?_
              have hc : ¬ (63 < nI j + more ∨ ¬ bLt (gShl 1 (nI j + more)) (D - r)) := by
                rw [← h23, ← h18]
                exact fun z => z.elim zc74 (fun z => z (bI_ne0.mp zc88))
              have hj1 : S'.1 23 + 1 = nI (j + 1) := by rw [h23]; exact nI_1 j
              first
              | exact absurd zc152 (by decide)
              | exact absurd zc140 (by decide)
              | (have hd : ¬ bLt r (D - r) := by (rw [← h18]; exact bI_eq0.mp zc106)
                 rw [fLp_t hc hd, nI_1] at hp
                 refine ih _ _ _ _ _ (j + 1) _ _ rfl rfl hM (by omega) h18 hj1 ((hF.ul (by decide) _).ui (by decide) _) ?_
                 rw [← h18] at hp ⊢
                 exact hp)
              | (have hd : bLt r (D - r) := by (rw [← h18]; exact bI_ne0.mp zc106)
                 rw [fLp_f hc hd, nI_1] at hp
                 refine ih _ _ _ _ _ (j + 1) _ _ rfl rfl hM (by omega) h18 hj1 ((hF.ul (by decide) _).ui (by decide) _) ?_
                 rw [← h18] at hp ⊢
                 exact hp)
            · refine g_lload dX11_find_155 rfl ?_
              refine g_aload_n (i := 0) dX11_find_157 rfl rfl ?_
              refine gm_get hM (k := 18) dX11_find_158 flX11_171 rfl ?_
              refine g_lload dX11_find_161 rfl ?_
              refine g_lsub dX11_find_163 ?_
              refine g_lsub dX11_find_164 ?_
              refine g_goto (tgt := 174) dX11_find_165 (by decide) ?_
              refine g_lstore (ls' := [_, _, _, _, _, _, _, _, _, _]) dX11_find_174 (by decide) rfl rfl ?_
              refine g_aload_n (i := 0) dX11_find_176 rfl rfl ?_
              refine g_dup dX11_find_177 rfl ?_
              refine gm_get hM (k := 23) dX11_find_178 flX11_183 rfl ?_
              refine g_iconst (v := 1) dX11_find_181 (by decide) ?_
              refine g_iadd dX11_find_182 ?_
              refine gm_puti hM (k := 23) dX11_find_183 flX11_183 fp9_23 (by decide) (fun σ hM => ?_)
              refine g_goto (tgt := 51) dX11_find_186 (by decide) ?_
              have hc : ¬ (63 < nI j + more ∨ ¬ bLt (gShl 1 (nI j + more)) (D - r)) := by
                rw [← h23, ← h18]
                exact fun z => z.elim zc74 (fun z => z (bI_ne0.mp zc88))
              have hj1 : S'.1 23 + 1 = nI (j + 1) := by rw [h23]; exact nI_1 j
              first
              | exact absurd zc152 (by decide)
              | exact absurd zc140 (by decide)
              | (have hd : ¬ bLt r (D - r) := by (rw [← h18]; exact bI_eq0.mp zc106)
                 rw [fLp_t hc hd, nI_1] at hp
                 refine ih _ _ _ _ _ (j + 1) _ _ rfl rfl hM (by omega) h18 hj1 ((hF.ul (by decide) _).ui (by decide) _) ?_
                 rw [← h18] at hp ⊢
                 exact hp)
              | (have hd : bLt r (D - r) := by (rw [← h18]; exact bI_ne0.mp zc106)
                 rw [fLp_f hc hd, nI_1] at hp
                 refine ih _ _ _ _ _ (j + 1) _ _ rfl rfl hM (by omega) h18 hj1 ((hF.ul (by decide) _).ui (by decide) _) ?_
                 rw [← h18] at hp ⊢
                 exact hp)
          · refine g_lconst (v := 1) dX11_find_143 (by decide) ?_
            refine g_goto (tgt := 148) dX11_find_144 (by decide) ?_
            refine g_lor dX11_find_148 ?_
            refine g_lstore_n (i := 3) (ls' := [_, _, _, _, _, _, _, _, _, _]) dX11_find_149 rfl (by decide) rfl rfl ?_
            refine g_iload dX11_find_150 rfl ?_
            refine g_if_eq (tgt := 168) dX11_find_152 (by decide) (fun zc152 => ?_) (fun zc152 => ?_)
            · refine g_ldc2 (v := 2) dX11_find_168 klX11_116 ?_
              refine g_lload dX11_find_171 rfl ?_
              refine g_lmul dX11_find_173 ?_
              refine g_lstore (ls' := [_, _, _, _, _, _, _, _, _, _]) dX11_find_174 (by decide) rfl rfl ?_
              refine g_aload_n (i := 0) dX11_find_176 rfl rfl ?_
              refine g_dup dX11_find_177 rfl ?_
              refine gm_get hM (k := 23) dX11_find_178 flX11_183 rfl ?_
              refine g_iconst (v := 1) dX11_find_181 (by decide) ?_
              refine g_iadd dX11_find_182 ?_
              refine gm_puti hM (k := 23) dX11_find_183 flX11_183 fp9_23 (by decide) (fun σ hM => ?_)
              refine g_goto (tgt := 51) dX11_find_186 (by decide) ?_
              have hc : ¬ (63 < nI j + more ∨ ¬ bLt (gShl 1 (nI j + more)) (D - r)) := by
                rw [← h23, ← h18]
                exact fun z => z.elim zc74 (fun z => z (bI_ne0.mp zc88))
              have hj1 : S'.1 23 + 1 = nI (j + 1) := by rw [h23]; exact nI_1 j
              first
              | exact absurd zc152 (by decide)
              | exact absurd zc140 (by decide)
              | (have hd : ¬ bLt r (D - r) := by (rw [← h18]; exact bI_eq0.mp zc106)
                 rw [fLp_t hc hd, nI_1] at hp
                 refine ih _ _ _ _ _ (j + 1) _ _ rfl rfl hM (by omega) h18 hj1 ((hF.ul (by decide) _).ui (by decide) _) ?_
                 rw [← h18] at hp ⊢
                 exact hp)
              | (have hd : bLt r (D - r) := by (rw [← h18]; exact bI_ne0.mp zc106)
                 rw [fLp_f hc hd, nI_1] at hp
                 refine ih _ _ _ _ _ (j + 1) _ _ rfl rfl hM (by omega) h18 hj1 ((hF.ul (by decide) _).ui (by decide) _) ?_
                 rw [← h18] at hp ⊢
                 exact hp)
            · refine g_lload dX11_find_155 rfl ?_
              refine g_aload_n (i := 0) dX11_find_157 rfl rfl ?_
              refine gm_get hM (k := 18) dX11_find_158 flX11_171 rfl ?_
              refine g_lload dX11_find_161 rfl ?_
              refine g_lsub dX11_find_163 ?_
              refine g_lsub dX11_find_164 ?_
              refine g_goto (tgt := 174) dX11_find_165 (by decide) ?_
              refine g_lstore (ls' := [_, _, _, _, _, _, _, _, _, _]) dX11_find_174 (by decide) rfl rfl ?_
              refine g_aload_n (i := 0) dX11_find_176 rfl rfl ?_
              refine g_dup dX11_find_177 rfl ?_
              refine gm_get hM (k := 23) dX11_find_178 flX11_183 rfl ?_
              refine g_iconst (v := 1) dX11_find_181 (by decide) ?_
              refine g_iadd dX11_find_182 ?_
              refine gm_puti hM (k := 23) dX11_find_183 flX11_183 fp9_23 (by decide) (fun σ hM => ?_)
              refine g_goto (tgt := 51) dX11_find_186 (by decide) ?_
              have hc : ¬ (63 < nI j + more ∨ ¬ bLt (gShl 1 (nI j + more)) (D - r)) := by
                rw [← h23, ← h18]
                exact fun z => z.elim zc74 (fun z => z (bI_ne0.mp zc88))
              have hj1 : S'.1 23 + 1 = nI (j + 1) := by rw [h23]; exact nI_1 j
              first
              | exact absurd zc152 (by decide)
              | exact absurd zc140 (by decide)
              | (have hd : ¬ bLt r (D - r) := by (rw [← h18]; exact bI_eq0.mp zc106)
                 rw [fLp_t hc hd, nI_1] at hp
                 refine ih _ _ _ _ _ (j + 1) _ _ rfl rfl hM (by omega) h18 hj1 ((hF.ul (by decide) _).ui (by decide) _) ?_
                 rw [← h18] at hp ⊢
                 exact hp)
              | (have hd : bLt r (D - r) := by (rw [← h18]; exact bI_ne0.mp zc106)
                 rw [fLp_f hc hd, nI_1] at hp
                 refine ih _ _ _ _ _ (j + 1) _ _ rfl rfl hM (by omega) h18 hj1 ((hF.ul (by decide) _).ui (by decide) _) ?_
                 rw [← h18] at hp ⊢
                 exact hp)
        · refine g_iconst (v := 1) dX11_find_109 (by decide) ?_
          refine g_goto (tgt := 114) dX11_find_110 (by decide) ?_
          refine g_istore (ls' := [_, _, _, _, _, _, _, _, _, _]) dX11_find_114 (by decide) rfl rfl ?_
          refine g_lload_n (i := 3) dX11_find_116 rfl rfl ?_
          refine g_iload_n (i := 1) dX11_find_117 rfl rfl ?_
          refine g_iconst (v := 1) dX11_find_118 (by decide) ?_
          refine g_isub dX11_find_119 ?_
          refine g_lushr dX11_find_120 ?_
          refine g_lconst (v := 1) dX11_find_121 (by decide) ?_
          refine g_land dX11_find_122 ?_
          refine g_l2i dX11_find_123 ?_
          refine g_iconst (v := 2) dX11_find_124 (by decide) ?_
          refine g_iload dX11_find_125 rfl ?_
          refine g_imul dX11_find_127 ?_
          refine g_iadd dX11_find_128 ?_
          refine g_istore (ls' := [_, _, _, _, _, _, _, _, _, _]) dX11_find_129 (by decide) rfl rfl ?_
          refine g_lload_n (i := 3) dX11_find_131 rfl rfl ?_
          refine g_iconst (v := 1) dX11_find_132 (by decide) ?_
          refine g_lshl dX11_find_133 ?_
          refine g_iload_n (i := 1) dX11_find_134 rfl rfl ?_
          refine g_callSl (My := mX11_low) [_, _] dX11_find_135 lkX11_105 mvX11_low rfl (c_X11_low _ _) (by decide) (by decide) (by decide) rfl (Nat.le_of_ble_eq_true rfl) (fun zr135 σ zh135 => ?_)
          obtain ⟨rfl, rfl⟩ := zh135
          refine g_iload dX11_find_138 rfl ?_
          refine g_if_eq (tgt := 147) dX11_find_140 (by decide) (fun zc140 => ?_) (fun zc140 => ?_)
          · refine g_lconst (v := 0) dX11_find_147 (by decide) ?_
            refine g_lor dX11_find_148 ?_
            refine g_lstore_n (i := 3) (ls' := [_, _, _, _, _, _, _, _, _, _]) dX11_find_149 rfl (by decide) rfl rfl ?_
            refine g_iload dX11_find_150 rfl ?_
            refine g_if_eq (tgt := 168) dX11_find_152 (by decide) (fun zc152 => ?_) (fun zc152 => ?_)
            · refine g_ldc2 (v := 2) dX11_find_168 klX11_116 ?_
              refine g_lload dX11_find_171 rfl ?_
              refine g_lmul dX11_find_173 ?_
              refine g_lstore (ls' := [_, _, _, _, _, _, _, _, _, _]) dX11_find_174 (by decide) rfl rfl ?_
              refine g_aload_n (i := 0) dX11_find_176 rfl rfl ?_
              refine g_dup dX11_find_177 rfl ?_
              refine gm_get hM (k := 23) dX11_find_178 flX11_183 rfl ?_
              refine g_iconst (v := 1) dX11_find_181 (by decide) ?_
              refine g_iadd dX11_find_182 ?_
              refine gm_puti hM (k := 23) dX11_find_183 flX11_183 fp9_23 (by decide) (fun σ hM => ?_)
              refine g_goto (tgt := 51) dX11_find_186 (by decide) ?_
              have hc : ¬ (63 < nI j + more ∨ ¬ bLt (gShl 1 (nI j + more)) (D - r)) := by
                rw [← h23, ← h18]
                exact fun z => z.elim zc74 (fun z => z (bI_ne0.mp zc88))
              have hj1 : S'.1 23 + 1 = nI (j + 1) := by rw [h23]; exact nI_1 j
              first
              | exact absurd zc152 (by decide)
              | exact absurd zc140 (by decide)
              | (have hd : ¬ bLt r (D - r) := by (rw [← h18]; exact bI_eq0.mp zc106)
                 rw [fLp_t hc hd, nI_1] at hp
                 refine ih _ _ _ _ _ (j + 1) _ _ rfl rfl hM (by omega) h18 hj1 ((hF.ul (by decide) _).ui (by decide) _) ?_
                 rw [← h18] at hp ⊢
                 exact hp)
              | (have hd : bLt r (D - r) := by (rw [← h18]; exact bI_ne0.mp zc106)
                 rw [fLp_f hc hd, nI_1] at hp
                 refine ih _ _ _ _ _ (j + 1) _ _ rfl rfl hM (by omega) h18 hj1 ((hF.ul (by decide) _).ui (by decide) _) ?_
                 rw [← h18] at hp ⊢
                 exact hp)
            · refine g_lload dX11_find_155 rfl ?_
              refine g_aload_n (i := 0) dX11_find_157 rfl rfl ?_
              refine gm_get hM (k := 18) dX11_find_158 flX11_171 rfl ?_
              refine g_lload dX11_find_161 rfl ?_
              refine g_lsub dX11_find_163 ?_
              refine g_lsub dX11_find_164 ?_
              refine g_goto (tgt := 174) dX11_find_165 (by decide) ?_
              refine g_lstore (ls' := [_, _, _, _, _, _, _, _, _, _]) dX11_find_174 (by decide) rfl rfl ?_
              refine g_aload_n (i := 0) dX11_find_176 rfl rfl ?_
              refine g_dup dX11_find_177 rfl ?_
              refine gm_get hM (k := 23) dX11_find_178 flX11_183 rfl ?_
              refine g_iconst (v := 1) dX11_find_181 (by decide) ?_
              refine g_iadd dX11_find_182 ?_
              refine gm_puti hM (k := 23) dX11_find_183 flX11_183 fp9_23 (by decide) (fun σ hM => ?_)
              refine g_goto (tgt := 51) dX11_find_186 (by decide) ?_
              have hc : ¬ (63 < nI j + more ∨ ¬ bLt (gShl 1 (nI j + more)) (D - r)) := by
                rw [← h23, ← h18]
                exact fun z => z.elim zc74 (fun z => z (bI_ne0.mp zc88))
              have hj1 : S'.1 23 + 1 = nI (j + 1) := by rw [h23]; exact nI_1 j
              first
              | exact absurd zc152 (by decide)
              | exact absurd zc140 (by decide)
              | (have hd : ¬ bLt r (D - r) := by (rw [← h18]; exact bI_eq0.mp zc106)
                 rw [fLp_t hc hd, nI_1] at hp
                 refine ih _ _ _ _ _ (j + 1) _ _ rfl rfl hM (by omega) h18 hj1 ((hF.ul (by decide) _).ui (by decide) _) ?_
                 rw [← h18] at hp ⊢
                 exact hp)
              | (have hd : bLt r (D - r) := by (rw [← h18]; exact bI_ne0.mp zc106)
                 rw [fLp_f hc hd, nI_1] at hp
                 refine ih _ _ _ _ _ (j + 1) _ _ rfl rfl hM (by omega) h18 hj1 ((hF.ul (by decide) _).ui (by decide) _) ?_
                 rw [← h18] at hp ⊢
                 exact hp)
          · refine g_lconst (v := 1) dX11_find_143 (by decide) ?_
            refine g_goto (tgt := 148) dX11_find_144 (by decide) ?_
            refine g_lor dX11_find_148 ?_
            refine g_lstore_n (i := 3) (ls' := [_, _, _, _, _, _, _, _, _, _]) dX11_find_149 rfl (by decide) rfl rfl ?_
            refine g_iload dX11_find_150 rfl ?_
            refine g_if_eq (tgt := 168) dX11_find_152 (by decide) (fun zc152 => ?_) (fun zc152 => ?_)
            · refine g_ldc2 (v := 2) dX11_find_168 klX11_116 ?_
              refine g_lload dX11_find_171 rfl ?_
              refine g_lmul dX11_find_173 ?_
              refine g_lstore (ls' := [_, _, _, _, _, _, _, _, _, _]) dX11_find_174 (by decide) rfl rfl ?_
              refine g_aload_n (i := 0) dX11_find_176 rfl rfl ?_
              refine g_dup dX11_find_177 rfl ?_
              refine gm_get hM (k := 23) dX11_find_178 flX11_183 rfl ?_
              refine g_iconst (v := 1) dX11_find_181 (by decide) ?_
              refine g_iadd dX11_find_182 ?_
              refine gm_puti hM (k := 23) dX11_find_183 flX11_183 fp9_23 (by decide) (fun σ hM => ?_)
              refine g_goto (tgt := 51) dX11_find_186 (by decide) ?_
              have hc : ¬ (63 < nI j + more ∨ ¬ bLt (gShl 1 (nI j + more)) (D - r)) := by
                rw [← h23, ← h18]
                exact fun z => z.elim zc74 (fun z => z (bI_ne0.mp zc88))
              have hj1 : S'.1 23 + 1 = nI (j + 1) := by rw [h23]; exact nI_1 j
              first
              | exact absurd zc152 (by decide)
              | exact absurd zc140 (by decide)
              | (have hd : ¬ bLt r (D - r) := by (rw [← h18]; exact bI_eq0.mp zc106)
                 rw [fLp_t hc hd, nI_1] at hp
                 refine ih _ _ _ _ _ (j + 1) _ _ rfl rfl hM (by omega) h18 hj1 ((hF.ul (by decide) _).ui (by decide) _) ?_
                 rw [← h18] at hp ⊢
                 exact hp)
              | (have hd : bLt r (D - r) := by (rw [← h18]; exact bI_ne0.mp zc106)
                 rw [fLp_f hc hd, nI_1] at hp
                 refine ih _ _ _ _ _ (j + 1) _ _ rfl rfl hM (by omega) h18 hj1 ((hF.ul (by decide) _).ui (by decide) _) ?_
                 rw [← h18] at hp ⊢
                 exact hp)
            · refine g_lload dX11_find_155 rfl ?_
              refine g_aload_n (i := 0) dX11_find_157 rfl rfl ?_
              refine gm_get hM (k := 18) dX11_find_158 flX11_171 rfl ?_
              refine g_lload dX11_find_161 rfl ?_
              refine g_lsub dX11_find_163 ?_
              refine g_lsub dX11_find_164 ?_
              refine g_goto (tgt := 174) dX11_find_165 (by decide) ?_
              refine g_lstore (ls' := [_, _, _, _, _, _, _, _, _, _]) dX11_find_174 (by decide) rfl rfl ?_
              refine g_aload_n (i := 0) dX11_find_176 rfl rfl ?_
              refine g_dup dX11_find_177 rfl ?_
              refine gm_get hM (k := 23) dX11_find_178 flX11_183 rfl ?_
              refine g_iconst (v := 1) dX11_find_181 (by decide) ?_
              refine g_iadd dX11_find_182 ?_
              refine gm_puti hM (k := 23) dX11_find_183 flX11_183 fp9_23 (by decide) (fun σ hM => ?_)
              refine g_goto (tgt := 51) dX11_find_186 (by decide) ?_
              have hc : ¬ (63 < nI j + more ∨ ¬ bLt (gShl 1 (nI j + more)) (D - r)) := by
                rw [← h23, ← h18]
                exact fun z => z.elim zc74 (fun z => z (bI_ne0.mp zc88))
              have hj1 : S'.1 23 + 1 = nI (j + 1) := by rw [h23]; exact nI_1 j
              first
              | exact absurd zc152 (by decide)
              | exact absurd zc140 (by decide)
              | (have hd : ¬ bLt r (D - r) := by (rw [← h18]; exact bI_eq0.mp zc106)
                 rw [fLp_t hc hd, nI_1] at hp
                 refine ih _ _ _ _ _ (j + 1) _ _ rfl rfl hM (by omega) h18 hj1 ((hF.ul (by decide) _).ui (by decide) _) ?_
                 rw [← h18] at hp ⊢
                 exact hp)
              | (have hd : bLt r (D - r) := by (rw [← h18]; exact bI_ne0.mp zc106)
                 rw [fLp_f hc hd, nI_1] at hp
                 refine ih _ _ _ _ _ (j + 1) _ _ rfl rfl hM (by omega) h18 hj1 ((hF.ul (by decide) _).ui (by decide) _) ?_
                 rw [← h18] at hp ⊢
                 exact hp)
      · refine g_goto (tgt := 189) dX11_find_91 (by decide) ?_
        refine g_aload_n (i := 0) dX11_find_189 rfl rfl ?_
        refine g_lload_n (i := 3) dX11_find_190 rfl rfl ?_
        refine g_lconst (v := 1) dX11_find_191 (by decide) ?_
        refine g_ladd dX11_find_192 ?_
        refine g_iload_n (i := 1) dX11_find_193 rfl rfl ?_
        refine g_callSl (My := mX11_low) [_, _] dX11_find_194 lkX11_105 mvX11_low rfl (c_X11_low _ _) (by decide) (by decide) (by decide) rfl (Nat.le_of_ble_eq_true rfl) (fun zr194 σ zh194 => ?_)
        obtain ⟨rfl, rfl⟩ := zh194
        refine gm_putl hM (k := 21) dX11_find_197 flX11_189 fp9_21 (by decide) (fun σ hM => ?_)
        refine g_aload_n (i := 0) dX11_find_200 rfl rfl ?_
        refine g_iload dX11_find_201 rfl ?_
        refine g_aload_n (i := 0) dX11_find_203 rfl rfl ?_
        refine gm_get hM (k := 21) dX11_find_204 flX11_189 rfl ?_
        refine g_lconst (v := 0) dX11_find_207 (by decide) ?_
        refine g_lcmp dX11_find_208 ?_
        refine g_if_ne (tgt := 216) dX11_find_209 (by decide) (fun zc209 => ?_) (fun zc209 => ?_)
        · refine g_iconst (v := 0) dX11_find_216 (by decide) ?_
          refine g_iadd dX11_find_217 ?_
          refine gm_puti hM (k := 22) dX11_find_218 flX11_192 fp9_22 (by decide) (fun σ hM => ?_)
          refine g_vret dX11_find_221 rfl ?_
          have hc : 63 < nI j + more ∨ ¬ bLt (gShl 1 (nI j + more)) (D - r) := by
            rw [← h23, ← h18]
            first | exact Or.inl zc74 | exact Or.inr (bI_eq0.mp zc88)
          rw [fLp_0 hc] at hp
          refine hp _ _ hM h23 (by show S'.2.1 18 - r = _; rw [h18]) rfl ?_ ((((hF.ul (by decide) _).ul (by decide) _).ui (by decide) _))
          first
          | (rw [if_pos (show mLow (q + 1) n = 0 from (lg_cmp_eq _ _).mp zc209)]; rfl)
          | (rw [if_neg (show ¬ mLow (q + 1) n = 0 from fun z => zc209 ((lg_cmp_eq _ _).mpr z))]; rfl)
        · refine g_iconst (v := 1) dX11_find_212 (by decide) ?_
          refine g_goto (tgt := 217) dX11_find_213 (by decide) ?_
          refine g_iadd dX11_find_217 ?_
          refine gm_puti hM (k := 22) dX11_find_218 flX11_192 fp9_22 (by decide) (fun σ hM => ?_)
          refine g_vret dX11_find_221 rfl ?_
          have hc : 63 < nI j + more ∨ ¬ bLt (gShl 1 (nI j + more)) (D - r) := by
            rw [← h23, ← h18]
            first | exact Or.inl zc74 | exact Or.inr (bI_eq0.mp zc88)
          rw [fLp_0 hc] at hp
          refine hp _ _ hM h23 (by show S'.2.1 18 - r = _; rw [h18]) rfl ?_ ((((hF.ul (by decide) _).ul (by decide) _).ui (by decide) _))
          first
          | (rw [if_pos (show mLow (q + 1) n = 0 from (lg_cmp_eq _ _).mp zc209)]; rfl)
          | (rw [if_neg (show ¬ mLow (q + 1) n = 0 from fun z => zc209 ((lg_cmp_eq _ _).mpr z))]; rfl)
theorem c_X11_find (hM : Mm σ o ad S) (n more : Int32) (hmo : more = 0 ∨ more = 1) {D : Int64} (hD : S.2.1 18 = D) : Ct l mX11_find 3 0 0 [.ref o, .int n, .int more] σ (pV fun σ' => ∃ S', Mm σ' o ad S' ∧ S'.1 23 = fMoved n more D ∧ S'.2.1 24 = fMiss n more D ∧ S'.2.1 21 = fFactor n more D ∧ S'.1 22 = fOver n more D ∧ sF S S' [22, 23] [1, 21, 24]) := by
  refine Ct_of moX11_find [some (.ref o), some (.int n), some (.int more), none, none, none, none, none, none, none] rfl (Nat.le_of_ble_eq_true rfl) ?_
  refine g_iload_n (i := 1) dX11_find_0 rfl rfl ?_
  refine g_bipush (v := 64) dX11_find_1 (by decide) ?_
  refine g_icmp_ne (tgt := 25) dX11_find_3 (by decide) (fun zc3 => ?_) (fun zc3 => ?_)
  · refine g_aload_n (i := 0) dX11_find_25 rfl rfl ?_
    refine g_lconst (v := 1) dX11_find_26 (by decide) ?_
    refine g_iload_n (i := 1) dX11_find_27 rfl rfl ?_
    refine g_lshl dX11_find_28 ?_
    refine g_aload_n (i := 0) dX11_find_29 rfl rfl ?_
    refine gm_get hM (k := 18) dX11_find_30 flX11_171 rfl ?_
    refine g_callVl (My := mX11_quotient) [_, _] dX11_find_33 lkX11_180 mvX11_quotient rfl hM.1 rfl (c_X11_quotient hM _ _) (by decide) (by decide) (by decide) rfl (Nat.le_of_ble_eq_true rfl) (fun zr33 σ zh33 => ?_)
    obtain ⟨ze33, hM⟩ := zh33
    rw [ze33]
    refine g_lstore_n (i := 3) (ls' := [_, _, _, _, _, _, _, _, _, _]) dX11_find_36 rfl (by decide) rfl rfl ?_
    refine g_aload_n (i := 0) dX11_find_37 rfl rfl ?_
    refine gm_get hM (k := 1) dX11_find_38 flX11_112 rfl ?_
    refine g_lstore (ls' := [_, _, _, _, _, _, _, _, _, _]) dX11_find_41 (by decide) rfl rfl ?_
    refine g_iconst (v := 0) dX11_find_43 (by decide) ?_
    refine g_istore (ls' := [_, _, _, _, _, _, _, _, _, _]) dX11_find_44 (by decide) rfl rfl ?_
    refine g_aload_n (i := 0) dX11_find_46 rfl rfl ?_
    refine g_iconst (v := 0) dX11_find_47 (by decide) ?_
    refine gm_puti hM (k := 23) dX11_find_48 flX11_183 fp9_23 (by decide) (fun σ hM => ?_)
    refine lp_X11_find (S := S) n more hmo (D := D) 65 _ _ _ _ _ 0 _ _ rfl rfl hM rfl hD rfl (((sF.rf S _ _).ul (by decide) _).ui (by decide) _) (fun σ' S'' a b c d e f => ⟨rfl, S'', a, ?_, ?_, ?_, ?_, f⟩)
    · first | (rw [b]; simp only [fMoved, fRes, if_pos zc3, ← hD]; rfl) | (rw [b]; simp only [fMoved, fRes, if_neg zc3, ← hD]; rfl)
    · first | (rw [c]; simp only [fMiss, fRes, if_pos zc3, ← hD]; rfl) | (rw [c]; simp only [fMiss, fRes, if_neg zc3, ← hD]; rfl)
    · first | (rw [d]; simp only [fFactor, fRes, if_pos zc3, ← hD]; rfl) | (rw [d]; simp only [fFactor, fRes, if_neg zc3, ← hD]; rfl)
    · first | (rw [e]; simp only [fOver, fFactor, fRes, if_pos zc3, ← hD]; rfl) | (rw [e]; simp only [fOver, fFactor, fRes, if_neg zc3, ← hD]; rfl)
  · refine g_aload_n (i := 0) dX11_find_6 rfl rfl ?_
    refine g_aload_n (i := 0) dX11_find_7 rfl rfl ?_
    refine gm_get hM (k := 18) dX11_find_8 flX11_171 rfl ?_
    refine g_lneg dX11_find_11 ?_
    refine g_aload_n (i := 0) dX11_find_12 rfl rfl ?_
    refine gm_get hM (k := 18) dX11_find_13 flX11_171 rfl ?_
    refine g_callVl (My := mX11_quotient) [_, _] dX11_find_16 lkX11_180 mvX11_quotient rfl hM.1 rfl (c_X11_quotient hM _ _) (by decide) (by decide) (by decide) rfl (Nat.le_of_ble_eq_true rfl) (fun zr16 σ zh16 => ?_)
    obtain ⟨ze16, hM⟩ := zh16
    rw [ze16]
    refine g_lconst (v := 1) dX11_find_19 (by decide) ?_
    refine g_ladd dX11_find_20 ?_
    refine g_lstore_n (i := 3) (ls' := [_, _, _, _, _, _, _, _, _, _]) dX11_find_21 rfl (by decide) rfl rfl ?_
    refine g_goto (tgt := 37) dX11_find_22 (by decide) ?_
    refine g_aload_n (i := 0) dX11_find_37 rfl rfl ?_
    refine gm_get hM (k := 1) dX11_find_38 flX11_112 rfl ?_
    refine g_lstore (ls' := [_, _, _, _, _, _, _, _, _, _]) dX11_find_41 (by decide) rfl rfl ?_
    refine g_iconst (v := 0) dX11_find_43 (by decide) ?_
    refine g_istore (ls' := [_, _, _, _, _, _, _, _, _, _]) dX11_find_44 (by decide) rfl rfl ?_
    refine g_aload_n (i := 0) dX11_find_46 rfl rfl ?_
    refine g_iconst (v := 0) dX11_find_47 (by decide) ?_
    refine gm_puti hM (k := 23) dX11_find_48 flX11_183 fp9_23 (by decide) (fun σ hM => ?_)
    refine lp_X11_find (S := S) n more hmo (D := D) 65 _ _ _ _ _ 0 _ _ rfl rfl hM rfl hD rfl (((sF.rf S _ _).ul (by decide) _).ui (by decide) _) (fun σ' S'' a b c d e f => ⟨rfl, S'', a, ?_, ?_, ?_, ?_, f⟩)
    · first | (rw [b]; simp only [fMoved, fRes, if_pos zc3, ← hD]; rfl) | (rw [b]; simp only [fMoved, fRes, if_neg zc3, ← hD]; rfl)
    · first | (rw [c]; simp only [fMiss, fRes, if_pos zc3, ← hD]; rfl) | (rw [c]; simp only [fMiss, fRes, if_neg zc3, ← hD]; rfl)
    · first | (rw [d]; simp only [fFactor, fRes, if_pos zc3, ← hD]; rfl) | (rw [d]; simp only [fFactor, fRes, if_neg zc3, ← hD]; rfl)
    · first | (rw [e]; simp only [fOver, fFactor, fRes, if_pos zc3, ← hD]; rfl) | (rw [e]; simp only [fOver, fFactor, fRes, if_neg zc3, ← hD]; rfl)
end CMnum
