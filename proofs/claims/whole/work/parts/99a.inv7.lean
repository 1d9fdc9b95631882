/-! make keeps what holds: the steps that it writes are well made -/
theorem fLp_MI {N : Nat} (hN : N = 8 ∨ N = 16 ∨ N = 32 ∨ N = 64) {D : Int64} (hD : 0 < uN D) (hDN : uN D < 2 ^ N) {sn : Nat} (hs : sn ≤ 1) :
    ∀ (f : Nat) (q r : Int64) (j h : Nat), j + f = 65 → MI N D j h q r → (sn = 1 → j + 1 ≤ N) → ∃ (q' r' : Int64) (h' j' : Nat), fLp (nI N) (nI sn) D f q r (nI h) (nI j) = (q', r', nI h', nI j') ∧ MI N D j' h' q' r' ∧ (sn = 1 → j' + 1 ≤ N) := by
  intro f
  induction f with
  | zero =>
    intro q r j h hj hm _
    exfalso
    have := hm.1
    omega
  | succ f ih =>
    intro q r j h hj hm hs1
    have hjN := hm.1
    have hadd : nI j + nI sn = nI (j + sn) := nI_add j sn
    have hDl := uN_lt D
    have hrl : uN r < uN D := by rw [hm.2.2.2.2.1]; exact Nat.mod_lt _ hD
    have hgap : uN (D - r) = uN D - uN r := by rw [uN_sub]; omega
    have hsh : j + sn < 64 → uN (gShl 1 (nI (j + sn))) = 2 ^ (j + sn) := fun z => by
      rw [uN_gShl 1 z, show uN 1 = 1 from by decide, Nat.one_mul]
      exact Nat.mod_eq_of_lt (by rw [← pw64]; exact Nat.pow_lt_pow_right (by decide) z)
    have h63 : 63 < nI j + nI sn ↔ ¬ (nI j + nI sn < 64) := by
      rw [hadd, show ((63 : Int32) < nI (j + sn) ↔ 63 < j + sn) from nI_ltI (a := 63) (by decide) (by omega), show (nI (j + sn) < 64 ↔ j + sn < 64) from nI_ltI (b := 64) (by omega) (by decide)]
      omega
    by_cases hz : 63 < nI j + nI sn ∨ ¬ bLt (gShl 1 (nI j + nI sn)) (D - r)
    · exact ⟨q, r, h, j, fLp_0 hz, hm, hs1⟩
    · have hlt64 : j + sn < 64 := by
        have : nI j + nI sn < 64 := Classical.byContradiction (fun z => hz (Or.inl (h63.mpr z)))
        rw [hadd, show (nI (j + sn) < 64 ↔ j + sn < 64) from nI_ltI (b := 64) (by omega) (by decide)] at this
        exact this
      have hb : bLt (gShl 1 (nI j + nI sn)) (D - r) := Classical.byContradiction (fun z => hz (Or.inr z))
      have hb2 : 2 ^ (j + sn) < uN D - uN r := by
        rw [hadd, uN_bLt, hsh hlt64, hgap] at hb
        exact hb
      have h2 : 2 ^ j ≤ 2 ^ (j + sn) := Nat.pow_le_pow_right (by decide) (by omega)
      have hjD : 2 ^ j < uN D := by omega
      have hjs : j + sn < N := by
        refine Nat.not_le.mp (fun z => ?_)
        have : 2 ^ N ≤ 2 ^ (j + sn) := Nat.pow_le_pow_right (by decide) z
        omega
      have hst := hm.step hN hDN hjD (by omega)
      have hh0 := hm.h0 hjD
      subst hh0
      obtain ⟨fb1, fb2⟩ := fBit q hN hm.2.2.1
      have hbit : (gUshr q (nI N - 1) &&& 1).toInt32 + 2 * nI 0 = nI (uN q / 2 ^ (N - 1)) := by
        rw [fb1]
        exact Int32.add_zero _
      by_cases hr : bLt r (D - r)
      · obtain ⟨q', r', h', j', e, m', s'⟩ := ih (mLow (gShl q 1) (nI N) ||| 0) (2 * r) (j + 1) (uN q / 2 ^ (N - 1)) (by omega) (hst.1 hr) (fun z => by omega)
        exact ⟨q', r', h', j', by rw [fLp_f hz hr, hbit, nI_1]; exact e, m', s'⟩
      · obtain ⟨q', r', h', j', e, m', s'⟩ := ih (mLow (gShl q 1) (nI N) ||| 1) (r - (D - r)) (j + 1) (uN q / 2 ^ (N - 1)) (by omega) (hst.2 hr) (fun z => by omega)
        exact ⟨q', r', h', j', by rw [fLp_t hz hr, hbit, nI_1]; exact e, m', s'⟩
theorem nI_sb {a b : Nat} (h : b ≤ a) : nI a - nI b = nI (a - b) := by
  have : nI a = nI (a - b) + nI b := by rw [nI_add, Nat.sub_add_cancel h]
  rw [this, Int32.add_sub_cancel]
theorem fMv {N : Nat} (hN : N = 8 ∨ N = 16 ∨ N = 32 ∨ N = 64) {D : Int64} (hD : 0 < uN D) (hDN : uN D < 2 ^ N) (hnd : 2 ^ N % uN D ≠ 0) {sn : Nat} (hs : sn ≤ 1) : ∃ j : Nat, fMoved (nI N) (nI sn) D = nI j ∧ j ≤ N ∧ (sn = 1 → j + 1 ≤ N) ∧ (fOver (nI N) (nI sn) D = 0 → j < N) := by
  obtain ⟨s1, s2, s3⟩ := mg_start hN hD hDN hnd
  obtain ⟨q', r', h', j', e, hm, hs1⟩ := fLp_MI hN hD hDN hs 65 _ _ 0 0 (by omega) s3 (fun _ => by omega)
  have hF : fRes (nI N) (nI sn) D = (q', r', nI h', nI j') := by
    unfold fRes
    rw [← s1, ← s2]
    exact e
  refine ⟨j', by unfold fMoved; rw [hF], hm.1, hs1, fun ho => ?_⟩
  have hjN := hm.1
  refine Nat.not_le.mp (fun z => ?_)
  have hj : j' = N := by omega
  subst hj
  obtain ⟨m1, m2, m3, m4, m5, m6⟩ := hm
  have hge : 2 ^ j' ≤ 2 ^ (j' + j') / uN D := by
    rw [Nat.le_div_iff_mul_le hD, Nat.pow_add]
    exact Nat.mul_le_mul_left _ (by omega)
  have hh : h' = 1 := by
    rcases (show h' = 0 ∨ h' = 1 by omega) with y | y
    · subst y
      omega
    · exact y
  subst hh
  unfold fOver at ho
  rw [hF] at ho
  have ho' : nI 1 + (if fFactor (nI j') (nI sn) D = 0 then 1 else 0) = (0 : Int32) := ho
  by_cases y : fFactor (nI j') (nI sn) D = 0
  · rw [if_pos y] at ho'
    exact absurd ho' (by decide)
  · rw [if_neg y] at ho'
    exact absurd ho' (by decide)
def okN (w : Int32) (n : Nat) (k x : Int32) (y : Int64) : Prop := (¬ k < 0 ∧ ¬ 12 < k) ∧ (¬ x < 0 ∧ x ≤ nI n) ∧ (isOp k → ¬ y < 0 ∧ ¬ (nI n).toInt64 < y) ∧ (isCt k → ¬ y < 0 ∧ y < w.toInt64)
theorem wfF.go {w : Int32} {L M : List aSt} {n : Nat} {k x : Int32} {y : Int64} (h : wfF (w, L)) (hn : L.length = n) (hl : n < 12) (ok : okN w n k x y) (kk : ∀ L', wfF (w, L') → L'.length = n + 1 → L' = L ++ [st1 w k x y] → wfF (w, L' ++ M)) : wfF (w, L ++ st1 w k x y :: M) := by
  subst hn
  rw [List.append_cons]
  exact kk _ (wfF_step h hl ok) (by simp) rfl
theorem wfF.fin {w : Int32} {L : List aSt} (h : wfF (w, L)) : wfF (w, L ++ []) := by rw [List.append_nil]; exact h
theorem wfF.st {w : Int32} {L : List aSt} {n : Nat} {k x : Int32} {y : Int64} (h : wfF (w, L)) (hn : L.length = n) (hl : n < 12) (ok : okN w n k x y) : wfF (w, L ++ [st1 w k x y]) := h.go hn hl ok (fun _ h1 _ _ => h1.fin)
theorem nl0 {a : Nat} (ha : a < 2 ^ 31) : ¬ nI a < 0 := fun z => absurd ((nI_ltI (b := 0) ha (by decide)).mp z) (Nat.not_lt_zero _)
theorem ll0 {a : Nat} (ha : a < 2 ^ 31) : ¬ (nI a).toInt64 < 0 := by
  rw [nI_l ha, neg_N, uN_lN (by omega)]
  omega
theorem okk {c : Nat} (hc : c ≤ 12) : ¬ nI c < 0 ∧ ¬ 12 < nI c := ⟨nl0 (by omega), fun z => absurd ((nI_ltI (a := 12) (by decide) (by omega)).mp z) (by omega)⟩
theorem okx {a n : Nat} (h : a ≤ n) (hn : n ≤ 12) : ¬ nI a < 0 ∧ nI a ≤ nI n := ⟨nl0 (by omega), nI_le h (by omega)⟩
theorem okN_o {w : Int32} {n c a : Nat} (y : Int64) (hc : c ≤ 12) (h1 : ¬ isOp (nI c)) (h2 : ¬ isCt (nI c)) (ha : a ≤ n) (hn : n ≤ 12) : okN w n (nI c) (nI a) y := ⟨okk hc, okx ha hn, fun z => absurd z h1, fun z => absurd z h2⟩
theorem okN_p {w : Int32} {n c a b : Nat} (hc : c ≤ 12) (h2 : ¬ isCt (nI c)) (ha : a ≤ n) (hn : n ≤ 12) (hb : b ≤ n) : okN w n (nI c) (nI a) (nI b).toInt64 := ⟨okk hc, okx ha hn, fun _ => ⟨ll0 (by omega), fun z => by
  have := ((ylt (y := (nI b).toInt64) (ll0 (by omega)) (show n < 2 ^ 31 by omega)).2.mp z)
  rw [nI_l (by omega), uN_lN (by omega)] at this
  omega⟩, fun z => absurd z h2⟩
theorem okN_c {N n c a b : Nat} (hN : N ≤ 64) (hc : c ≤ 12) (h1 : ¬ isOp (nI c)) (ha : a ≤ n) (hn : n ≤ 12) (hb : b < N) : okN (nI N) n (nI c) (nI a) (nI b).toInt64 := ⟨okk hc, okx ha hn, fun z => absurd z h1, fun _ => ⟨ll0 (by omega), (ylt (y := (nI b).toInt64) (ll0 (by omega)) (show N < 2 ^ 31 by omega)).1.mpr (by
  rw [nI_l (by omega), uN_lN (by omega)]
  exact hb)⟩⟩
theorem wfF_nil {w : Int32} (h : isW w) : wfF (w, []) := ⟨h, Nat.le_of_ble_eq_true rfl, fun k s hs => by simp at hs⟩
theorem wf_pqL {N : Nat} (hN : N = 8 ∨ N = 16 ∨ N = 32 ∨ N = 64) {D : Int64} {tz : Nat} (hz : Tz D tz) (hD : 0 < uN D) (hDN : uN D < 2 ^ N) {L : List aSt} {n : Nat} (h : wfF (nI N, L)) (hn : L.length = n) (hl : n + 5 ≤ 12) {a : Nat} (ha : a ≤ n) : wfF (nI N, L ++ pqL (nI N) D (gUshr D (nI tz)) tz (nI a) n) := by
  have hN64 : N ≤ 64 := by omega
  have htz : tz < N := by
    have h1 : 2 ^ tz ≤ uN D := by
      rw [hz.sp]
      omega
    exact (Nat.pow_lt_pow_iff_right (by decide)).mp (Nat.lt_of_le_of_lt h1 hDN)
  unfold pqL
  by_cases ho : gUshr D (nI tz) = 1
  · rw [if_pos ho]
    exact h.st hn (by omega) (okN_c (c := 0) hN64 (by decide) (by decide) ha (by omega) htz)
  · rw [if_neg ho]
    obtain ⟨j, ej, hj, _, hj2⟩ := fMv hN hD hDN (hz.nd ho) (sn := 0) (by decide)
    rw [show fMoved (nI N) 0 D = nI j from ej]
    by_cases hv : fOver (nI N) 0 D = 0
    · rw [if_pos hv]
      by_cases hm : nI j ≤ 0
      · rw [if_pos hm]
        exact h.st hn (by omega) (okN_o (c := 2) _ (by decide) (by decide) (by decide) ha (by omega))
      · rw [if_neg hm]
        refine h.go hn (by omega) (okN_o (c := 2) _ (by decide) (by decide) (by decide) ha (by omega)) (fun L1 h1 n1 _ => ?_)
        exact h1.st n1 (by omega) (okN_c (c := 0) hN64 (by decide) (by decide) (by omega) (by omega) (hj2 hv))
    · rw [if_neg hv]
      have e1 : (1 : Int64) = (nI 1).toInt64 := by decide
      by_cases hm : nI j ≤ 1
      · rw [if_pos hm, e1]
        refine h.go hn (by omega) (okN_o (c := 2) _ (by decide) (by decide) (by decide) ha (by omega)) (fun L1 h1 n1 _ => ?_)
        refine h1.go n1 (by omega) (okN_p (c := 6) (by decide) (by decide) (by omega) (by omega) (by omega)) (fun L2 h2 n2 _ => ?_)
        refine h2.go n2 (by omega) (okN_c (c := 0) hN64 (by decide) (by decide) (by omega) (by omega) (by omega)) (fun L3 h3 n3 _ => ?_)
        exact h3.st n3 (by omega) (okN_p (c := 5) (by decide) (by decide) (by omega) (by omega) (by omega))
      · have hj1 : 1 ≤ j := by
          refine Nat.not_lt.mp (fun z => hm ?_)
          exact nI_le (b := 1) (by omega) (by decide)
        have ej1 : nI j - 1 = nI (j - 1) := nI_sb (b := 1) hj1
        rw [if_neg hm, e1, ej1]
        refine h.go hn (by omega) (okN_o (c := 2) _ (by decide) (by decide) (by decide) ha (by omega)) (fun L1 h1 n1 _ => ?_)
        refine h1.go n1 (by omega) (okN_p (c := 6) (by decide) (by decide) (by omega) (by omega) (by omega)) (fun L2 h2 n2 _ => ?_)
        refine h2.go n2 (by omega) (okN_c (c := 0) hN64 (by decide) (by decide) (by omega) (by omega) (by omega)) (fun L3 h3 n3 _ => ?_)
        refine h3.go n3 (by omega) (okN_p (c := 5) (by decide) (by decide) (by omega) (by omega) (by omega)) (fun L4 h4 n4 _ => ?_)
        exact h4.st n4 (by omega) (okN_c (c := 0) hN64 (by decide) (by decide) (by omega) (by omega) (by omega))
theorem Tz.ltN {D : Int64} {tz N : Nat} (hz : Tz D tz) (hDN : uN D < 2 ^ N) : tz < N := by
  have h1 : 2 ^ tz ≤ uN D := by
    rw [hz.sp]
    omega
  exact (Nat.pow_lt_pow_iff_right (by decide)).mp (Nat.lt_of_le_of_lt h1 hDN)
theorem wf_roL {N : Nat} {L : List aSt} {n : Nat} (h : wfF (nI N, L)) (hn : L.length = n) (hl : n + 2 ≤ 12) (d : Int64) : wfF (nI N, L ++ roL (nI N) (nI n) d n) := by
  unfold roL
  refine h.go hn (by omega) (okN_o (c := 4) _ (by decide) (by decide) (by decide) (Nat.le_refl _) (by omega)) (fun L1 h1 n1 _ => ?_)
  exact h1.st n1 (by omega) (okN_p (c := 6) (a := 0) (by decide) (by decide) (by omega) (by omega) (by omega))
theorem wf_pwL {N : Nat} (hN64 : N ≤ 64) {L : List aSt} {n : Nat} (h : wfF (nI N, L)) (hn : L.length = n) (hl : n + 3 ≤ 12) {a : Nat} (ha : a ≤ n) {tz : Nat} (htz : tz < N) (D od : Int64) : wfF (nI N, L ++ pwL (nI N) D od tz (nI a) n) := by
  unfold pwL
  by_cases hm : nI tz ≤ 0
  · rw [if_pos hm]
    refine h.go hn (by omega) (okN_o (c := 4) _ (by decide) (by decide) (by decide) ha (by omega)) (fun L1 h1 n1 _ => ?_)
    exact h1.st n1 (by omega) (okN_o (c := 11) _ (by decide) (by decide) (by decide) (by omega) (by omega))
  · rw [if_neg hm]
    refine h.go hn (by omega) (okN_o (c := 4) _ (by decide) (by decide) (by decide) ha (by omega)) (fun L1 h1 n1 _ => ?_)
    refine h1.go n1 (by omega) (okN_c (c := 10) hN64 (by decide) (by decide) (by omega) (by omega) htz) (fun L2 h2 n2 _ => ?_)
    exact h2.st n2 (by omega) (okN_o (c := 11) _ (by decide) (by decide) (by decide) (by omega) (by omega))
theorem wf_wplL {N : Nat} (hN : N = 8 ∨ N = 16 ∨ N = 32 ∨ N = 64) {D : Int64} {tz : Nat} (hz : Tz D tz) (hD : 0 < uN D) (hDN : uN D < 2 ^ N) (ws : Int32) : wfF (nI N, wplL (nI N) ws D (gUshr D (nI tz)) tz) := by
  have hW : isW (nI N) := by rcases hN with rfl | rfl | rfl | rfl <;> decide
  have hN64 : N ≤ 64 := by omega
  have htz := hz.ltN hDN
  have h0 : wfF (nI N, []) := wfF_nil hW
  have hp : wfF (nI N, pqL (nI N) D (gUshr D (nI tz)) tz 0 0) := wf_pqL hN hz hD hDN (n := 0) (a := 0) h0 rfl (by decide) (Nat.le_refl _)
  have hpl := pqL_len (nI N) D (gUshr D (nI tz)) tz 0 0
  unfold wplL
  by_cases c1 : ws = 0 ∨ ws = 1
  · rw [if_pos c1]; exact hp
  rw [if_neg c1]
  by_cases c2 : ws = 2 ∨ ws = 3
  · rw [if_pos c2]
    by_cases ho : gUshr D (nI tz) = 1
    · rw [if_pos ho]
      exact h0.st (L := []) (n := 0) rfl (by decide) (okN_o (c := 9) (a := 0) _ (by decide) (by decide) (by decide) (by omega) (by omega))
    · rw [if_neg ho]
      exact wf_roL hp rfl (by omega) D
  rw [if_neg c2]
  by_cases c3 : ws = 4
  · rw [if_pos c3]
    exact wf_pwL hN64 (L := []) (n := 0) (a := 0) h0 rfl (by decide) (by omega) htz D _
  rw [if_neg c3]
  by_cases ho : gUshr D (nI tz) = 1
  · rw [if_pos ho]
    exact h0.st (L := []) (n := 0) rfl (by decide) (okN_c (c := 0) (a := 0) hN64 (by decide) (by decide) (by omega) (by omega) htz)
  rw [if_neg ho]
  by_cases ht : 0 < nI tz
  · rw [if_pos ht]
    refine h0.go (L := []) (n := 0) rfl (by decide) (okN_c (c := 0) (a := 0) hN64 (by decide) (by decide) (by omega) (by omega) htz) (fun L1 h1 n1 _ => ?_)
    exact h1.st n1 (by omega) (okN_o (c := 4) (a := 1) _ (by decide) (by decide) (by decide) (by omega) (by omega))
  · rw [if_neg ht]
    exact h0.st (L := []) (n := 0) rfl (by decide) (okN_o (c := 4) (a := 0) _ (by decide) (by decide) (by decide) (by omega) (by omega))
theorem wf_sqT {N : Nat} (bl : Int32) {L : List aSt} (h : wfF (nI N, L)) (hl : L.length + 1 ≤ 12) : wfF (nI N, sqT (nI N) bl L) := by
  unfold sqT
  by_cases hb : bl = 0
  · rw [if_pos hb]; exact h.fin
  · rw [if_neg hb]
    exact h.st rfl (by omega) (okN_o (c := 7) _ (by decide) (by decide) (by decide) (Nat.le_refl _) (by omega))
theorem wf_sqL {N : Nat} (hN : N = 8 ∨ N = 16 ∨ N = 32 ∨ N = 64) {D : Int64} {tz : Nat} (hz : Tz D tz) (hD : 0 < uN D) (hDN : uN D < 2 ^ N) (bl : Int32) : wfF (nI N, sqL (nI N) D (gUshr D (nI tz)) tz bl) ∧ (sqL (nI N) D (gUshr D (nI tz)) tz bl).length ≤ 6 := by
  have hW : isW (nI N) := by rcases hN with rfl | rfl | rfl | rfl <;> decide
  have hN64 : N ≤ 64 := by omega
  have htz := hz.ltN hDN
  have h0 : wfF (nI N, []) := wfF_nil hW
  have ew : nI N - 1 = nI (N - 1) := nI_sb (b := 1) (by omega)
  have e0 : (0 : Int64) = (nI 0).toInt64 := by decide
  unfold sqL
  by_cases c1 : D = 1
  · rw [if_pos c1]
    by_cases c2 : bl = 0
    · rw [if_pos c2, e0]
      exact ⟨h0.st (L := []) (n := 0) rfl (by decide) (okN_c (c := 0) (a := 0) hN64 (by decide) (by decide) (by omega) (by omega) (by omega)), Nat.le_of_ble_eq_true rfl⟩
    · rw [if_neg c2]
      exact ⟨h0.st (L := []) (n := 0) rfl (by decide) (okN_o (c := 7) (a := 0) _ (by decide) (by decide) (by decide) (by omega) (by omega)), Nat.le_of_ble_eq_true rfl⟩
  rw [if_neg c1]
  by_cases ho : gUshr D (nI tz) = 1
  · rw [if_pos ho]
    have ht1 : 1 ≤ tz := by
      refine Nat.not_lt.mp (fun z => c1 ?_)
      have : tz = 0 := by omega
      subst this
      have e := hz.eq
      have e2 := hz.od
      rw [ho] at e2
      rw [Nat.pow_zero, Nat.one_mul, Nat.div_one] at e
      rw [Nat.pow_zero, Nat.div_one] at e2
      exact uN_inj e2.symm
    have et : nI N - nI tz = nI (N - tz) := nI_sb (by omega)
    refine ⟨wf_sqT bl ?_ (Nat.le_of_ble_eq_true rfl), Nat.le_trans (sqT_len _ _ _) (Nat.le_of_ble_eq_true rfl)⟩
    rw [ew, et]
    refine h0.go (L := []) (n := 0) rfl (by decide) (okN_c (c := 1) (a := 0) hN64 (by decide) (by decide) (by omega) (by omega) (by omega)) (fun L1 h1 n1 _ => ?_)
    refine h1.go n1 (by omega) (okN_c (c := 0) (a := 1) hN64 (by decide) (by decide) (by omega) (by omega) (by omega)) (fun L2 h2 n2 _ => ?_)
    refine h2.go n2 (by omega) (okN_p (c := 5) (a := 0) (by decide) (by decide) (by omega) (by omega) (by omega)) (fun L3 h3 n3 _ => ?_)
    exact h3.st n3 (by omega) (okN_c (c := 1) (a := 3) hN64 (by decide) (by decide) (by omega) (by omega) htz)
  rw [if_neg ho]
  obtain ⟨j, ej, hj, hj1, _⟩ := fMv hN hD hDN (hz.nd ho) (sn := 1) (by decide)
  rw [show fMoved (nI N) 1 D = nI j from ej]
  have hA : wfF (nI N, sqA (nI N) (fFactor (nI N) 1 D) (fOver (nI N) 1 D)) := by
    unfold sqA
    by_cases c : 0 < fOver (nI N) 1 D ∨ mUp (fFactor (nI N) 1 D) (nI N)
    · rw [if_pos c]
      refine h0.go (L := []) (n := 0) rfl (by decide) (okN_o (c := 3) (a := 0) _ (by decide) (by decide) (by decide) (by omega) (by omega)) (fun L1 h1 n1 _ => ?_)
      exact h1.st n1 (by omega) (okN_p (c := 5) (a := 1) (b := 0) (by decide) (by decide) (by omega) (by omega) (by omega))
    · rw [if_neg c]
      exact h0.st (L := []) (n := 0) rfl (by decide) (okN_o (c := 3) (a := 0) _ (by decide) (by decide) (by decide) (by omega) (by omega))
  have lA := sqA_len (nI N) (fFactor (nI N) 1 D) (fOver (nI N) 1 D)
  generalize sqA (nI N) (fFactor (nI N) 1 D) (fOver (nI N) 1 D) = LA at hA lA ⊢
  have hB : wfF (nI N, sqB (nI N) (nI j) LA) := by
    unfold sqB
    by_cases c : nI j ≤ 0
    · rw [if_pos c]; exact hA.fin
    · rw [if_neg c]
      exact hA.st rfl (by omega) (okN_c (c := 1) hN64 (by decide) (by decide) (Nat.le_refl _) (by omega) (by have := hj1 rfl; omega))
  have lB := sqB_len (nI N) (nI j) LA
  generalize sqB (nI N) (nI j) LA = LB at hB lB ⊢
  have hC : wfF (nI N, sqC (nI N) LB) := by
    unfold sqC
    rw [ew]
    refine hB.go rfl (by omega) (okN_c (c := 1) (a := 0) hN64 (by decide) (by decide) (by omega) (by omega) (by omega)) (fun L1 h1 n1 _ => ?_)
    exact h1.st n1 (by omega) (okN_p (c := 6) (by decide) (by decide) (by omega) (by omega) (by omega))
  have lC := sqC_len (nI N) LB
  refine ⟨wf_sqT bl hC (by omega), ?_⟩
  have := sqT_len (nI N) bl (sqC (nI N) LB)
  omega
theorem wf_sdL {N : Nat} (hN : N = 8 ∨ N = 16 ∨ N = 32 ∨ N = 64) {D : Int64} {tz : Nat} (hz : Tz D tz) (hD : 0 < uN D) (hDN : uN D < 2 ^ N) : wfF (nI N, sdL (nI N) D (gUshr D (nI tz)) tz) ∧ (sdL (nI N) D (gUshr D (nI tz)) tz).length ≤ 8 := by
  have hW : isW (nI N) := by rcases hN with rfl | rfl | rfl | rfl <;> decide
  have hN64 : N ≤ 64 := by omega
  have h0 : wfF (nI N, []) := wfF_nil hW
  have ew : nI N - 1 = nI (N - 1) := nI_sb (b := 1) (by omega)
  have hP : wfF (nI N, sdP (nI N)) := by
    unfold sdP
    rw [ew]
    refine h0.go (L := []) (n := 0) rfl (by decide) (okN_c (c := 1) (a := 0) hN64 (by decide) (by decide) (by omega) (by omega) (by omega)) (fun L1 h1 n1 _ => ?_)
    exact h1.st n1 (by omega) (okN_p (c := 8) (a := 0) (by decide) (by decide) (by omega) (by omega) (by omega))
  have hQ : wfF (nI N, sdQ (nI N) D (gUshr D (nI tz)) tz) := wf_pqL hN hz hD hDN (n := 2) (a := 2) hP rfl (by decide) (by omega)
  have lQ : (sdQ (nI N) D (gUshr D (nI tz)) tz).length ≤ 7 := by
    unfold sdQ
    rw [List.length_append]
    have := pqL_len (nI N) D (gUshr D (nI tz)) tz 2 2
    have e : (sdP (nI N)).length = 2 := rfl
    omega
  unfold sdL
  refine ⟨hQ.st rfl (by omega) (okN_p (c := 8) (by decide) (by decide) (Nat.le_refl _) (by omega) ?_), ?_⟩
  · show 1 ≤ (sdP (nI N) ++ pqL (nI N) D (gUshr D (nI tz)) tz 2 2).length
    rw [List.length_append]
    have e : (sdP (nI N)).length = 2 := rfl
    omega
  · rw [List.length_append]
    have e : ∀ s : aSt, [s].length = 1 := fun _ => rfl
    rw [e]
    omega
theorem wf_wsgL {N : Nat} (hN : N = 8 ∨ N = 16 ∨ N = 32 ∨ N = 64) {D : Int64} {tz : Nat} (hz : Tz D tz) (hD : 0 < uN D) (hDN : uN D < 2 ^ N) (ws : Int32) (d : Int64) : wfF (nI N, wsgL (nI N) ws d D (gUshr D (nI tz)) tz) := by
  have hW : isW (nI N) := by rcases hN with rfl | rfl | rfl | rfl <;> decide
  have hN64 : N ≤ 64 := by omega
  have htz := hz.ltN hDN
  have h0 : wfF (nI N, []) := wfF_nil hW
  have ew : nI N - 1 = nI (N - 1) := nI_sb (b := 1) (by omega)
  unfold wsgL
  by_cases c0 : ws = 0
  · rw [if_pos c0]; exact (wf_sqL hN hz hD hDN _).1
  rw [if_neg c0]
  by_cases c1 : ws = 1
  · rw [if_pos c1]; exact (wf_sdL hN hz hD hDN).1
  rw [if_neg c1]
  by_cases c2 : ws = 2
  · rw [if_pos c2]
    obtain ⟨q1, q2⟩ := wf_sqL hN hz hD hDN (bI (mUp (mLow d (nI N)) (nI N)))
    exact wf_roL q1 rfl (by omega) d
  rw [if_neg c2]
  by_cases c3 : ws = 3
  · rw [if_pos c3]
    obtain ⟨q1, q2⟩ := wf_sdL hN hz hD hDN
    exact wf_roL q1 rfl (by omega) d
  rw [if_neg c3]
  by_cases c4 : ws = 4
  · rw [if_pos c4, ew]
    refine h0.go (L := []) (n := 0) rfl (by decide) (okN_c (c := 1) (a := 0) hN64 (by decide) (by decide) (by omega) (by omega) (by omega)) (fun L1 h1 n1 _ => ?_)
    refine h1.go n1 (by omega) (okN_p (c := 8) (a := 0) (by decide) (by decide) (by omega) (by omega) (by omega)) (fun L2 h2 n2 _ => ?_)
    refine h2.go n2 (by omega) (okN_p (c := 6) (a := 2) (by decide) (by decide) (by omega) (by omega) (by omega)) (fun L3 h3 n3 _ => ?_)
    exact wf_pwL hN64 (a := 3) h3 n3 (by decide) (by omega) htz D _
  rw [if_neg c4]
  by_cases c5 : gShr (mSig (mLow d (nI N)) (nI N)) (nI tz) = 1
  · rw [if_pos c5]
    exact h0.st (L := []) (n := 0) rfl (by decide) (okN_c (c := 1) (a := 0) hN64 (by decide) (by decide) (by omega) (by omega) htz)
  rw [if_neg c5]
  by_cases ht : 0 < nI tz
  · rw [if_pos ht]
    refine h0.go (L := []) (n := 0) rfl (by decide) (okN_c (c := 1) (a := 0) hN64 (by decide) (by decide) (by omega) (by omega) htz) (fun L1 h1 n1 _ => ?_)
    exact h1.st n1 (by omega) (okN_o (c := 4) (a := 1) _ (by decide) (by decide) (by decide) (by omega) (by omega))
  · rw [if_neg ht]
    exact h0.st (L := []) (n := 0) rfl (by decide) (okN_o (c := 4) (a := 0) _ (by decide) (by decide) (by decide) (by omega) (by omega))
theorem Inv.smake {A : aA} (h : Inv A) (w sg ws : Int32) (d : Int64) {tz : Nat} (hz : mIsA w sg ws d → isTz (mSz w sg d) tz) : Inv (sMake A w sg ws d tz).2 := by
  unfold sMake
  by_cases hi : mIsA w sg ws d
  · rw [if_pos hi]
    by_cases hl : A.1.length = 60
    · rw [if_pos hl]; exact h
    · rw [if_neg hl]
      have h60 : A.1.length ≤ 60 := h.1.1.2
      refine h.addF (by omega) ?_
      have hz' := Tz_of (hz hi)
      have hp := sz_pos hi
      obtain ⟨N, hN, rfl⟩ := isW_N hi.1
      have hlt := sz_lt (sg := sg) (d := d) hN rfl
      have h0 : 0 < uN (mSz (nI N) sg d) := by
        refine Nat.pos_of_ne_zero (fun z => hp ?_)
        exact uN_inj (z.trans (by decide))
      unfold mkL
      by_cases hs : sg = 0
      · rw [if_pos hs]; exact wf_wplL hN hz' h0 hlt ws
      · rw [if_neg hs]; exact wf_wsgL hN hz' h0 hlt ws d
  · rw [if_neg hi]; exact h
