/-! the reference: fill and look -/
def sT (S S' : mS) : Prop := (∀ k, k ∉ [38, 39] → S'.1 k = S.1 k) ∧ S'.2.1 = S.2.1 ∧ (∀ k, k ∉ [29, 32, 33, 34, 35, 36] → S'.2.2.1 k = S.2.2.1 k) ∧ (∀ k, k ∉ [37] → S'.2.2.2 k = S.2.2.2 k)
theorem sT.rf (S : mS) : sT S S := ⟨fun _ _ => rfl, rfl, fun _ _ => rfl, fun _ _ => rfl⟩
theorem sT.tr {S S' S'' : mS} (h : sT S S') (h' : sT S' S'') : sT S S'' := ⟨fun k z => (h'.1 k z).trans (h.1 k z), h'.2.1.trans h.2.1, fun k z => (h'.2.2.1 k z).trans (h.2.2.1 k z), fun k z => (h'.2.2.2 k z).trans (h.2.2.2 k z)⟩
theorem sT.ui {S S' : mS} (h : sT S S') {k : Nat} (hk : k ∈ [38, 39]) (v : Int32) : sT S (ui S' k v) := ⟨fun j hj => by rw [← h.1 j hj]; exact va_up_ne _ _ (fun e => hj (e ▸ hk)), h.2⟩
theorem sT.uI {S S' : mS} (h : sT S S') {k : Nat} (hk : k ∈ [29, 32, 33, 34, 35, 36]) (f : Nat → Int32) : sT S (uI S' k f) := ⟨h.1, h.2.1, fun j hj => by rw [← h.2.2.1 j hj]; exact va_up_ne _ _ (fun e => hj (e ▸ hk)), h.2.2.2⟩
theorem sT.uJ {S S' : mS} (h : sT S S') {k : Nat} (hk : k ∈ [37]) (f : Nat → Int64) : sT S (uJ S' k f) := ⟨h.1, h.2.1, h.2.2.1, fun j hj => by rw [← h.2.2.2 j hj]; exact va_up_ne _ _ (fun e => hj (e ▸ hk))⟩
theorem RepM.sT {S S' : mS} {A : aA} (q : RepM S A) (h : sT S S') : RepM S' A := by
  refine q.of (fun k z => h.1 k ?_) (fun k z => h.2.2.1 k ?_) (fun k z => h.2.2.2 k ?_)
  · simp only [List.mem_cons, List.not_mem_nil, or_false] at z ⊢
    omega
  · simp only [List.mem_cons, List.not_mem_nil, or_false] at z ⊢
    omega
  · simp only [List.mem_cons, List.not_mem_nil, or_false] at z ⊢
    omega
def nwS (S : mS) (tl : Nat → Int64) (i : Nat) (s : aSt) : Prop := ∃ c x y : Nat, c ≤ 12 ∧ x ≤ i ∧ y < 4 ∧ (isOp (nI c) → y ≤ i) ∧ s = mkS tl c x y ∧ S.2.2.1 32 i = nI c ∧ S.2.2.1 33 i = nI x ∧ S.2.2.1 34 i = nI y
def NWn (S : mS) (tl : Nat → Int64) (f : List aSt) : Prop := ∀ (i : Nat) (s : aSt), f[i]? = some s → nwS S tl i s
def NWr (S : mS) (f : List aSt) (k : Nat) : Prop := ∀ i v, i ≤ k → v < 256 → S.2.2.1 29 (256 * i + v) = (opA 8 f (lN v) i i).toInt32
theorem NWn.sT {S S' : mS} {tl : Nat → Int64} {f : List aSt} (h : NWn S tl f) (e : ∀ k ∈ [32, 33, 34], ∀ i, i < f.length → S'.2.2.1 k i = S.2.2.1 k i) : NWn S' tl f := by
  intro i s hs
  have hi : i < f.length := (List.getElem?_eq_some_iff.mp hs).1
  obtain ⟨c, x, y, a1, a2, a3, a4, a5, a6, a7, a8⟩ := h i s hs
  exact ⟨c, x, y, a1, a2, a3, a4, a5, (e 32 (by decide) i hi).trans a6, (e 33 (by decide) i hi).trans a7, (e 34 (by decide) i hi).trans a8⟩
theorem NWn.y8 {S : mS} {tl : Nat → Int64} {f : List aSt} (h : NWn S tl f) : ∀ s ∈ f, ¬ isOp s.1 → uN s.2.2 < 2 ^ 8 := by
  intro s hs hn
  obtain ⟨i, hi⟩ := List.getElem?_of_mem hs
  obtain ⟨c, x, y, -, -, -, -, rfl, -⟩ := h i s hi
  exact mkS_y hn
theorem op8 {S : mS} {tl : Nat → Int64} {f : List aSt} (h : NWn S tl f) (v : Int64) (k i : Nat) : uN (opA 8 f v k i) < 256 := opA_lt (N := 8) (Or.inl rfl) h.y8 v k i
theorem mbV_eq {S : mS} {tl : Nat → Int64} {f : List aSt} (htl : S.2.2.2 27 = tl) (hn : NWn S tl f) {k : Nat} (hk3 : k < 3) (hr : NWr S f k) {s : aSt} (hs : f[k]? = some s) {v : Nat} (hv : v < 256) : mbV S k v = (opA 8 f (lN v) (k + 1) (k + 1)).toInt32 := by
  obtain ⟨c, x, y, a1, a2, a3, a4, rfl, a6, a7, a8⟩ := hn k s hs
  rw [opA_s hs]
  unfold mbV
  have hx31 : x < 2 ^ 31 := by omega
  rw [a6, a7, a8, nI_clamp hx31, nI_clamp (show y < 2 ^ 31 by omega), hr x v a2 hv, htl]
  have e1 : (mkS tl c x y).2.1.toNatClampNeg = x := nI_clamp hx31
  have e0 : (mkS tl c x y).1 = nI c := rfl
  rw [e1, e0, sm_64 (Nat.lt_trans (op8 hn _ _ _) (by decide)), ← opA_le 8 f (lN v) a2]
  by_cases ho : isOp (nI c)
  · have e2 : (mkS tl c x y).2.2 = (nI y).toInt64 := by
      show yOfV tl (nI c) y = _
      rw [yOfV, if_pos ho]
    rw [if_pos ho, if_pos ho, e2, hr y v (a4 ho) hv, sm_64 (Nat.lt_trans (op8 hn _ _ _) (by decide)), nI_l (by omega), lN_i, nI_clamp (show y < 2 ^ 31 by omega), ← opA_le 8 f (lN v) (a4 ho)]
  · have e2 : (mkS tl c x y).2.2 = t8 tl y := by
      show yOfV tl (nI c) y = _
      rw [yOfV, if_neg ho]
    rw [if_neg ho, if_neg ho, e2]
theorem uI_id (S : mS) (k : Nat) : uI S k (S.2.2.1 k) = S := by
  unfold uI
  have e : va_up S.2.2.1 k (S.2.2.1 k) = S.2.2.1 := by
    funext q
    by_cases e : q = k
    · subst e; rw [va_up_self]
    · rw [va_up_ne _ _ e]
  rw [e]
section CMleast2
variable {l : Launch} {o : Nat} {ad : Nat → Nat} {S : mS}
theorem lp_X11_fill {tl : Nat → Int64} {f : List aSt} (htl : S.2.2.2 27 = tl) (hn : NWn S tl f) {k : Nat} (hk : k < 3) (hr : NWr S f k) {s : aSt} (hs : f[k]? = some s) {post : Option Value → gH → Prop} (hp : ∀ (σ' : gH) (g : Nat → Int32), Mm σ' o ad (uI S 29 g) → NWr (uI S 29 g) f (k + 1) → post none σ') :
    ∀ (n v : Nat) (g : Nat → Int32) (σ : gH), v + n = 256 → Mm σ o ad (uI S 29 g) → (∀ q, q < 256 * (k + 1) → g q = S.2.2.1 29 q) → (∀ u, u < v → g (256 * (k + 1) + u) = (opA 8 f (lN u) (k + 1) (k + 1)).toInt32) → G l mX11_fill 5 0 0 post σ 2 [some (.ref o), some (.int (nI k)), some (.int (nI v))] [] := by
  obtain ⟨c, x, y, a1, a2, a3, a4, a5, a6, a7, a8⟩ := hn k s hs
  intro n
  induction n with
  | zero =>
    intro v g σ hv hM h1 h2
    obtain rfl : v = 256 := by omega
    refine g_iload_n (i := 2) dX11_fill_2 rfl rfl ?_
    refine g_sipush (v := 256) dX11_fill_3 (by decide) ?_
    refine g_icmp_ge (tgt := 35) dX11_fill_6 (by decide) (fun zc6 => ?_) (fun zc6 => ?_)
    · refine g_vret dX11_fill_35 rfl ?_
      refine hp _ g hM (fun i u hi hu => ?_)
      show g (256 * i + u) = _
      by_cases e : i = k + 1
      · subst e; exact h2 u hu
      · rw [h1 _ (by omega)]; exact hr i u (by omega) hu
    · exact absurd (by decide) zc6
  | succ n ih =>
    intro v g σ hv hM h1 h2
    have hrg : NWr (uI S 29 g) f k := fun i u hi hu => (h1 _ (by omega)).trans (hr i u hi hu)
    have hng : NWn (uI S 29 g) tl f := hn.sT (fun q hq i hi => by
      simp only [List.mem_cons, List.not_mem_nil, or_false] at hq
      rcases hq with rfl | rfl | rfl <;> rfl)
    have hcl : (nI (256 * (k + 1) + v)).toNatClampNeg = 256 * (k + 1) + v := nI_clamp (by omega)
    refine g_iload_n (i := 2) dX11_fill_2 rfl rfl ?_
    refine g_sipush (v := 256) dX11_fill_3 (by decide) ?_
    refine g_icmp_ge (tgt := 35) dX11_fill_6 (by decide) (fun zc6 => ?_) (fun zc6 => ?_)
    · exact absurd zc6 (nI_ge (b := 256) (by omega) (by decide))
    · refine g_aload_n (i := 0) dX11_fill_9 rfl rfl ?_
      refine gm_get hM (k := 29) dX11_fill_10 flX11_59 rfl ?_
      refine g_sipush (v := 256) dX11_fill_13 (by decide) ?_
      refine g_iload_n (i := 1) dX11_fill_16 rfl rfl ?_
      refine g_iconst (v := 1) dX11_fill_17 (by decide) ?_
      refine g_iadd dX11_fill_18 ?_
      refine g_imul dX11_fill_19 ?_
      refine g_iload_n (i := 2) dX11_fill_20 rfl rfl ?_
      refine g_iadd dX11_fill_21 ?_
      rw [nI_1, ix256]
      refine g_aload_n (i := 0) dX11_fill_22 rfl rfl ?_
      refine g_iload_n (i := 1) dX11_fill_23 rfl rfl ?_
      refine g_iload_n (i := 2) dX11_fill_24 rfl rfl ?_
      refine g_callVi (My := mX11_madeBy) [_, _] dX11_fill_25 lkX11_282 mvX11_madeBy rfl hM.1 rfl (c_X11_madeBy hM hk (show v < 256 by omega) a7 (show x < 4 by omega) a8 a3) (by decide) (by decide) (by decide) rfl (Nat.le_of_ble_eq_true rfl) (fun zr25 σ zh25 => ?_)
      obtain ⟨ze25, zf25⟩ := zh25
      rw [zf25]
      refine g_toi (opA 8 f (lN v) (k + 1) (k + 1)).toInt32 (by rw [ze25]; exact mbV_eq (S := uI S 29 g) htl hng hk hrg hs (by omega)) ?_
      refine gm_iast hM dX11_fill_28 rfl ((vp_in_nI (show 256 * (k + 1) + v < 1024 by omega) (by decide) : vp_in (nI (256 * (k + 1) + v)) 1024)) (fun σ hM => ?_)
      refine g_iinc (v := _ + 1) (ls' := [_, _, _]) dX11_fill_29 rfl rfl (by decide) rfl rfl ?_
      refine g_goto (tgt := 2) dX11_fill_32 (by decide) ?_
      rw [uI_uI, hcl] at hM
      refine g_cl (by rw [nI_1]) (ih (v + 1) _ σ (by omega) hM (fun q hq => ?_) (fun u hu => ?_))
      · exact (pk_un (by omega)).trans (h1 q hq)
      · by_cases e : u = v
        · subst e; exact pk_us
        · exact (pk_un (by omega)).trans (h2 u (by omega))
theorem c_X11_fill {σ : gH} {tl : Nat → Int64} {f : List aSt} (hM : Mm σ o ad S) (htl : S.2.2.2 27 = tl) (hn : NWn S tl f) {k : Nat} (hk : k < 3) (hr : NWr S f k) {s : aSt} (hs : f[k]? = some s) : Ct l mX11_fill 5 0 0 [.ref o, .int (nI k)] σ (pV fun σ' => ∃ g, Mm σ' o ad (uI S 29 g) ∧ NWr (uI S 29 g) f (k + 1)) := by
  refine Ct_of moX11_fill [some (.ref o), some (.int (nI k)), none] rfl (Nat.le_of_ble_eq_true rfl) ?_
  refine g_iconst (v := 0) dX11_fill_0 (by decide) ?_
  refine g_istore_n (i := 2) (ls' := [_, _, _]) dX11_fill_1 rfl (by decide) rfl rfl ?_
  refine lp_X11_fill htl hn hk hr hs (fun σ' g h1 h2 => ⟨rfl, g, h1, h2⟩) 256 0 (S.2.2.1 29) σ (by omega) (by rw [uI_id]; exact hM) (fun _ _ => rfl) (fun u hu => absurd hu (Nat.not_lt_zero _))
def BS (S : mS) (b : bB) : Prop := S.1 38 = nI b.1 ∧ b.1 ≤ 1000 ∧ (b.1 < 1000 → S.1 39 = nI b.2.length ∧ b.2.length ≤ 3 ∧ ∀ (i : Nat) (s : aSt), b.2[i]? = some s → S.2.2.1 35 i = s.1 ∧ S.2.2.1 36 i = s.2.1 ∧ S.2.2.2 37 i = s.2.2)
def LC (S : mS) (pr : Nat → Nat) (cn : Nat → Prop) (dq : Nat → Int64) : Prop := (∀ i, i < 13 → S.2.2.1 8 i = nI (pr i) ∧ 1 ≤ pr i ∧ pr i ≤ 50) ∧ (∀ v, v < 256 → S.2.2.1 30 v = (dq v).toInt32 ∧ uN (dq v) < 256 ∧ S.2.2.1 31 v = bI (cn v))
theorem LC.sT {S S' : mS} {pr : Nat → Nat} {cn : Nat → Prop} {dq : Nat → Int64} (h : LC S pr cn dq) (e : sT S S') : LC S' pr cn dq := ⟨fun i hi => by rw [e.2.2.1 8 (by decide)]; exact h.1 i hi, fun v hv => by rw [e.2.2.1 30 (by decide), e.2.2.1 31 (by decide)]; exact h.2 v hv⟩
/-- the form that was just found right is kept -/
theorem lp_X11_look2 {tl : Nat → Int64} {f : List aSt} (htl : S.2.2.2 27 = tl) (hn : NWn S tl f) {k : Nat} (hk : k < 3) (hf : f.length = k + 1) (c : Int32) {post : Option Value → gH → Prop} (hp : ∀ (σ' : gH) (S' : mS), Mm σ' o ad S' → sT S S' → (∀ q, q ∉ [35, 36] → S'.2.2.1 q = S.2.2.1 q) → S'.1 = S.1 → (∀ (i : Nat) (s : aSt), f[i]? = some s → S'.2.2.1 35 i = s.1 ∧ S'.2.2.1 36 i = s.2.1 ∧ S'.2.2.2 37 i = s.2.2) → post none σ') :
    ∀ (n i : Nat) (S' : mS) (σ : gH), i + n = k + 1 → Mm σ o ad S' → sT S S' → (∀ q, q ∉ [35, 36] → S'.2.2.1 q = S.2.2.1 q) → S'.1 = S.1 → (∀ (j : Nat) (s : aSt), j < i → f[j]? = some s → S'.2.2.1 35 j = s.1 ∧ S'.2.2.1 36 j = s.2.1 ∧ S'.2.2.2 37 j = s.2.2) → G l mX11_look 5 0 0 post σ 54 [some (.ref o), some (.int (nI k)), some (.int c), some (.int (nI i))] [] := by
  intro n
  induction n with
  | zero =>
    intro i S' σ hi hM h1 h2 h3 h4
    obtain rfl : i = k + 1 := by omega
    refine g_iload_n (i := 3) dX11_look_54 rfl rfl ?_
    refine g_iload_n (i := 1) dX11_look_55 rfl rfl ?_
    refine g_icmp_gt (tgt := 111) dX11_look_56 (by decide) (fun zc56 => ?_) (fun zc56 => ?_)
    · refine g_vret dX11_look_111 rfl ?_
      exact hp _ S' hM h1 h2 h3 (fun j s hs => h4 j s (by have := (List.getElem?_eq_some_iff.mp hs).1; omega) hs)
    · exact absurd (nI_lt (Nat.lt_succ_self k) (by omega)) zc56
  | succ n ih =>
    intro i S' σ hi hM h1 h2 h3 h4
    obtain ⟨s, hs⟩ : ∃ s, f[i]? = some s := ⟨_, List.getElem?_eq_getElem (by omega)⟩
    obtain ⟨cc, x, y, a1, a2, a3, a4, a5, a6, a7, a8⟩ := hn i s hs
    have hI : vp_in (nI i) 3 := vp_in_nI (by omega) (by decide)
    have hci : (nI i).toNatClampNeg = i := nI_clamp (by omega)
    have ht' : S'.2.2.2 27 = tl := (h1.2.2.2 27 (by decide)).trans htl
    refine g_iload_n (i := 3) dX11_look_54 rfl rfl ?_
    refine g_iload_n (i := 1) dX11_look_55 rfl rfl ?_
    refine g_icmp_gt (tgt := 111) dX11_look_56 (by decide) (fun zc56 => ?_) (fun zc56 => ?_)
    · exact absurd zc56 (nI_nlt (by omega) (by omega))
    · refine g_aload_n (i := 0) dX11_look_59 rfl rfl ?_
      refine gm_get hM (k := 35) dX11_look_60 flX11_78 rfl ?_
      refine g_iload_n (i := 3) dX11_look_63 rfl rfl ?_
      refine g_aload_n (i := 0) dX11_look_64 rfl rfl ?_
      refine gm_get hM (k := 32) dX11_look_65 flX11_69 rfl ?_
      refine g_iload_n (i := 3) dX11_look_68 rfl rfl ?_
      refine gm_iald hM dX11_look_69 rfl (hI) ?_
      refine g_toi (nI cc) (by rw [hci]; exact (congrFun (h2 32 (by decide)) i).trans a6) ?_
      refine gm_iast hM dX11_look_70 rfl (hI) (fun σ hM => ?_)
      refine g_aload_n (i := 0) dX11_look_71 rfl rfl ?_
      refine gm_get hM (k := 36) dX11_look_72 flX11_81 rfl ?_
      refine g_iload_n (i := 3) dX11_look_75 rfl rfl ?_
      refine g_aload_n (i := 0) dX11_look_76 rfl rfl ?_
      refine gm_get hM (k := 33) dX11_look_77 flX11_72 rfl ?_
      refine g_iload_n (i := 3) dX11_look_80 rfl rfl ?_
      refine gm_iald hM dX11_look_81 rfl (hI) ?_
      refine g_toi (nI x) (by rw [hci]; exact (congrFun (h2 33 (by decide)) i).trans a7) ?_
      refine gm_iast hM dX11_look_82 rfl (hI) (fun σ hM => ?_)
      refine g_aload_n (i := 0) dX11_look_83 rfl rfl ?_
      refine gm_get hM (k := 37) dX11_look_84 flX11_84 rfl ?_
      refine g_iload_n (i := 3) dX11_look_87 rfl rfl ?_
      refine g_aload_n (i := 0) dX11_look_88 rfl rfl ?_
      refine g_aload_n (i := 0) dX11_look_89 rfl rfl ?_
      refine gm_get hM (k := 32) dX11_look_90 flX11_69 rfl ?_
      refine g_iload_n (i := 3) dX11_look_93 rfl rfl ?_
      refine gm_iald hM dX11_look_94 rfl (hI) ?_
      refine g_toi (nI cc) (by rw [hci]; exact (congrFun (h2 32 (by decide)) i).trans a6) ?_
      refine g_aload_n (i := 0) dX11_look_95 rfl rfl ?_
      refine gm_get hM (k := 34) dX11_look_96 flX11_75 rfl ?_
      refine g_iload_n (i := 3) dX11_look_99 rfl rfl ?_
      refine gm_iald hM dX11_look_100 rfl (hI) ?_
      refine g_toi (nI y) (by rw [hci]; exact (congrFun (h2 34 (by decide)) i).trans a8) ?_
      refine g_callVl (My := mX11_yOf) [_, _] dX11_look_101 lkX11_288 mvX11_yOf rfl hM.1 rfl (c_X11_yOf hM _ (fun _ => a3) (show y < 2 ^ 31 by omega)) (by decide) (by decide) (by decide) rfl (Nat.le_of_ble_eq_true rfl) (fun zr101 σ zh101 => ?_)
      obtain ⟨ze101, zf101⟩ := zh101
      rw [zf101]
      refine g_tol s.2.2 (by rw [ze101, a5]; show yOfV (S'.2.2.2 27) (nI cc) y = yOfV tl (nI cc) y; rw [ht']) ?_
      refine gm_last hM dX11_look_104 rfl (hI) (fun σ hM => ?_)
      refine g_iinc (v := _ + 1) (ls' := [_, _, _, _]) dX11_look_105 rfl rfl (by decide) rfl rfl ?_
      refine g_goto (tgt := 54) dX11_look_108 (by decide) ?_
      rw [hci] at hM
      refine g_cl (by rw [nI_1]) (ih (i + 1) _ σ (by omega) hM ?_ ?_ h3 ?_)
      · exact ((h1.uI (by decide) _).uI (by decide) _).uJ (by decide) _
      · intro q hq
        rw [← h2 q hq]
        simp only [List.mem_cons, List.not_mem_nil, or_false, not_or] at hq
        show va_up (va_up S'.2.2.1 35 _) 36 _ q = _
        rw [va_up_ne _ _ hq.2, va_up_ne _ _ hq.1]
      · intro j t hj ht
        by_cases e : j = i
        · subst e
          rw [hs] at ht
          cases ht
          exact ⟨by rw [a5]; exact pk_us, by rw [a5]; exact pk_us, pk_uLs⟩
        · obtain ⟨b1, b2, b3⟩ := h4 j t (by omega) ht
          exact ⟨(pk_un e).trans b1, (pk_un e).trans b2, (pk_uLn e).trans b3⟩
theorem lp_X11_look {tl : Nat → Int64} {f : List aSt} (htl : S.2.2.2 27 = tl) (hn : NWn S tl f) {k : Nat} (hk : k < 3) (hf : f.length = k + 1) (hr : NWr S f k) {pr : Nat → Nat} {cn : Nat → Prop} {dq : Nat → Int64} (hL : LC S pr cn dq) {b : bB} (hB : BS S b) (hc : cN pr f < b.1) {σ : gH} (hM : Mm σ o ad S) {post : Option Value → gH → Prop} (hp : ∀ (σ' : gH) (S' : mS), Mm σ' o ad S' → sT S S' → (∀ q, q ∉ [35, 36] → S'.2.2.1 q = S.2.2.1 q) → BS S' (acN (rtF cn dq) pr f b) → post none σ') :
    ∀ (n v : Nat), v + n = 256 → (∀ u, u < v → cn u → opA 8 f (lN u) (k + 1) (k + 1) = dq u) → G l mX11_look 5 0 0 post σ 2 [some (.ref o), some (.int (nI k)), some (.int (nI (cN pr f))), some (.int (nI v))] [] := by
  obtain ⟨s, hs⟩ : ∃ s, f[k]? = some s := ⟨_, List.getElem?_eq_getElem (by omega)⟩
  obtain ⟨cc, x, y, a1, a2, a3, a4, a5, a6, a7, a8⟩ := hn k s hs
  have hb := hB.2.1
  intro n
  induction n with
  | zero =>
    intro v hv h
    obtain rfl : v = 256 := by omega
    have hR : rtF cn dq f := fun u hu hcu => by rw [hf]; exact h u hu hcu
    refine g_iload_n (i := 3) dX11_look_2 rfl rfl ?_
    refine g_sipush (v := 256) dX11_look_3 (by decide) ?_
    refine g_icmp_ge (tgt := 40) dX11_look_6 (by decide) (fun zc6 => ?_) (fun zc6 => ?_)
    · refine g_aload_n (i := 0) dX11_look_40 rfl rfl ?_
      refine g_iload_n (i := 2) dX11_look_41 rfl rfl ?_
      refine gm_puti hM (k := 38) dX11_look_42 flX11_265 fp9_38 (by decide) (fun σ hM => ?_)
      refine g_aload_n (i := 0) dX11_look_45 rfl rfl ?_
      refine g_iload_n (i := 1) dX11_look_46 rfl rfl ?_
      refine g_iconst (v := 1) dX11_look_47 (by decide) ?_
      refine g_iadd dX11_look_48 ?_
      rw [nI_1]
      refine gm_puti hM (k := 39) dX11_look_49 flX11_285 fp9_39 (by decide) (fun σ hM => ?_)
      refine g_iconst (v := 0) dX11_look_52 (by decide) ?_
      refine g_istore_n (i := 3) (ls' := [_, _, _, _]) dX11_look_53 rfl (by decide) rfl rfl ?_
      refine lp_X11_look2 (S := ui (ui S 38 (nI (cN pr f))) 39 (nI (k + 1))) htl (hn.sT (fun q _ i _ => rfl)) hk hf _ (fun σ' S' g1 g2 g3 g4 g5 => hp σ' S' g1 ?_ g3 ?_) (k + 1) 0 _ σ (by omega) hM (sT.rf _) (fun _ _ => rfl) rfl (fun j t hj => absurd hj (Nat.not_lt_zero _))
      · exact (((sT.rf S).ui (k := 38) (by decide) _).ui (k := 39) (by decide) _).tr g2
      · rw [acN_t hc hR]
        refine ⟨?_, by show cN pr f ≤ 1000; omega, fun _ => ⟨?_, by show f.length ≤ 3; omega, g5⟩⟩
        · rw [g4]; rfl
        · rw [g4]
          show _ = nI f.length
          rw [hf]; rfl
    · exact absurd (by decide) zc6
  | succ n ih =>
    intro v hv h
    have hcv : (nI v).toNatClampNeg = v := nI_clamp (by omega)
    have hI : vp_in (nI v) 256 := vp_in_nI (by omega) (by decide)
    obtain ⟨d1, d2, d3⟩ := hL.2 v (by omega)
    have hm := mbV_eq htl hn hk hr hs (v := v) (by omega)
    have ho := op8 hn (lN v) (k + 1) (k + 1)
    refine g_iload_n (i := 3) dX11_look_2 rfl rfl ?_
    refine g_sipush (v := 256) dX11_look_3 (by decide) ?_
    refine g_icmp_ge (tgt := 40) dX11_look_6 (by decide) (fun zc6 => ?_) (fun zc6 => ?_)
    · exact absurd zc6 (nI_ge (b := 256) (by omega) (by decide))
    · refine g_aload_n (i := 0) dX11_look_9 rfl rfl ?_
      refine gm_get hM (k := 31) dX11_look_10 flX11_65 rfl ?_
      refine g_iload_n (i := 3) dX11_look_13 rfl rfl ?_
      refine gm_zald hM dX11_look_14 rfl (hI) ?_
      refine g_toi (bI (cn v)) (by rw [hcv]; exact d3) ?_
      refine g_if_eq (tgt := 34) dX11_look_15 (by decide) (fun zc15 => ?_) (fun zc15 => ?_)
      · refine g_iinc (v := _ + 1) (ls' := [_, _, _, _]) dX11_look_34 rfl rfl (by decide) rfl rfl ?_
        refine g_goto (tgt := 2) dX11_look_37 (by decide) ?_
        refine g_cl (by rw [nI_1]) (ih (v + 1) (by omega) (fun u hu hcu => ?_))
        by_cases e : u = v
        · subst e
          first
          | exact absurd hcu (bI_eq0.mp zc15)
          | (have q := congrArg Int32.toInt64 zc30
             rw [sm_64 (Nat.lt_trans ho (by decide)), sm_64 (Nat.lt_trans d2 (by decide))] at q
             exact q)
        · exact h u (by omega) hcu
      · refine g_aload_n (i := 0) dX11_look_18 rfl rfl ?_
        refine g_iload_n (i := 1) dX11_look_19 rfl rfl ?_
        refine g_iload_n (i := 3) dX11_look_20 rfl rfl ?_
        refine g_callVi (My := mX11_madeBy) [_, _] dX11_look_21 lkX11_282 mvX11_madeBy rfl hM.1 rfl (c_X11_madeBy hM hk (show v < 256 by omega) a7 (show x < 4 by omega) a8 a3) (by decide) (by decide) (by decide) rfl (Nat.le_of_ble_eq_true rfl) (fun zr21 σ zh21 => ?_)
        obtain ⟨ze21, zf21⟩ := zh21
        rw [zf21]
        refine g_toi (opA 8 f (lN v) (k + 1) (k + 1)).toInt32 (by rw [ze21]; exact hm) ?_
        refine g_aload_n (i := 0) dX11_look_24 rfl rfl ?_
        refine gm_get hM (k := 30) dX11_look_25 flX11_62 rfl ?_
        refine g_iload_n (i := 3) dX11_look_28 rfl rfl ?_
        refine gm_iald hM dX11_look_29 rfl (hI) ?_
        refine g_toi (dq v).toInt32 (by rw [hcv]; exact d1) ?_
        refine g_icmp_eq (tgt := 34) dX11_look_30 (by decide) (fun zc30 => ?_) (fun zc30 => ?_)
        · refine g_iinc (v := _ + 1) (ls' := [_, _, _, _]) dX11_look_34 rfl rfl (by decide) rfl rfl ?_
          refine g_goto (tgt := 2) dX11_look_37 (by decide) ?_
          refine g_cl (by rw [nI_1]) (ih (v + 1) (by omega) (fun u hu hcu => ?_))
          by_cases e : u = v
          · subst e
            first
            | exact absurd hcu (bI_eq0.mp zc15)
            | (have q := congrArg Int32.toInt64 zc30
               rw [sm_64 (Nat.lt_trans ho (by decide)), sm_64 (Nat.lt_trans d2 (by decide))] at q
               exact q)
          · exact h u (by omega) hcu
        · refine g_vret dX11_look_33 rfl ?_
          refine hp _ S hM (sT.rf _) (fun _ _ => rfl) ?_
          rw [acN_f]
          · exact hB
          · intro z
            have := z v (by omega) (bI_ne0.mp zc15)
            rw [hf] at this
            exact zc30 (by rw [this])
theorem c_X11_look {tl : Nat → Int64} {f : List aSt} (htl : S.2.2.2 27 = tl) (hn : NWn S tl f) {k : Nat} (hk : k < 3) (hf : f.length = k + 1) (hr : NWr S f k) {pr : Nat → Nat} {cn : Nat → Prop} {dq : Nat → Int64} (hL : LC S pr cn dq) {b : bB} (hB : BS S b) (hc : cN pr f < b.1) {σ : gH} (hM : Mm σ o ad S) {c : Nat} (hcc : c = cN pr f) : Ct l mX11_look 5 0 0 [.ref o, .int (nI k), .int (nI c)] σ (pV fun σ' => ∃ S', Mm σ' o ad S' ∧ sT S S' ∧ (∀ q, q ∉ [35, 36] → S'.2.2.1 q = S.2.2.1 q) ∧ BS S' (acN (rtF cn dq) pr f b)) := by
  refine Ct_of moX11_look [some (.ref o), some (.int (nI k)), some (.int (nI c)), none] rfl (Nat.le_of_ble_eq_true rfl) ?_
  subst hcc
  refine g_iconst (v := 0) dX11_look_0 (by decide) ?_
  refine g_istore_n (i := 3) (ls' := [_, _, _, _]) dX11_look_1 rfl (by decide) rfl rfl ?_
  exact lp_X11_look htl hn hk hf hr hL hB hc hM (fun σ' S' g1 g2 g3 g4 => ⟨rfl, S', g1, g2, g3, g4⟩) 256 0 (by omega) (fun u hu => absurd hu (Nat.not_lt_zero _))
end CMleast2
