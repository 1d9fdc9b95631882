/-! the reference: acts -/
/-- arrays alone change, and of them only these -/
def sA (S S' : mS) (ki kj : List Nat) : Prop := S'.1 = S.1 ∧ S'.2.1 = S.2.1 ∧ (∀ k, k ∉ ki → S'.2.2.1 k = S.2.2.1 k) ∧ (∀ k, k ∉ kj → S'.2.2.2 k = S.2.2.2 k)
theorem sA.rf (S : mS) (ki kj : List Nat) : sA S S ki kj := ⟨rfl, rfl, fun _ _ => rfl, fun _ _ => rfl⟩
theorem sA.uI {S S' : mS} {ki kj : List Nat} (h : sA S S' ki kj) {k : Nat} (hk : k ∈ ki) (f : Nat → Int32) : sA S (uI S' k f) ki kj := ⟨h.1, h.2.1, fun j hj => by rw [← h.2.2.1 j hj]; exact va_up_ne _ _ (fun e => hj (e ▸ hk)), h.2.2.2⟩
theorem sA.uJ {S S' : mS} {ki kj : List Nat} (h : sA S S' ki kj) {k : Nat} (hk : k ∈ kj) (f : Nat → Int64) : sA S (uJ S' k f) ki kj := ⟨h.1, h.2.1, h.2.2.1, fun j hj => by rw [← h.2.2.2 j hj]; exact va_up_ne _ _ (fun e => hj (e ▸ hk))⟩
theorem sA.tr {S S' S'' : mS} {ki kj ki' kj' : List Nat} (h : sA S S' ki kj) (h' : sA S' S'' ki' kj') (hi : ∀ k ∈ ki', k ∈ ki) (hl : ∀ k ∈ kj', k ∈ kj) : sA S S'' ki kj := ⟨h'.1.trans h.1, h'.2.1.trans h.2.1, fun k hk => (h'.2.2.1 k (fun q => hk (hi k q))).trans (h.2.2.1 k hk), fun k hk => (h'.2.2.2 k (fun q => hk (hl k q))).trans (h.2.2.2 k hk)⟩
section CMhist
variable {l : Launch} {o : Nat} {ad : Nat → Nat} {S : mS} {A : aA}
theorem lp_X11_copyHeld {a b : Nat} (ha : a < 58) (hb : b < 58) {h : aHd} (hh : hdR S a h) {post : Option Value → gH → Prop} (hp : ∀ (σ' : gH) (f : Nat → Int64), Mm σ' o ad (uJ (uI (uI S 15 (upd (S.2.2.1 15) b (S.2.2.1 15 a))) 16 (upd (S.2.2.1 16) b (S.2.2.1 16 a))) 17 f) → (∀ (i : Nat) (v : Int64), h.2[i]? = some v → f (100 * b + i) = v) → (∀ q, q < 100 * b ∨ 100 * b + 100 ≤ q → f q = S.2.2.2 17 q) → post none σ') :
    ∀ (n k : Nat) (f : Nat → Int64) (σ : gH), k + n = h.2.length → Mm σ o ad (uJ (uI (uI S 15 (upd (S.2.2.1 15) b (S.2.2.1 15 a))) 16 (upd (S.2.2.1 16) b (S.2.2.1 16 a))) 17 f) → (∀ (i : Nat) (v : Int64), h.2[i]? = some v → f (100 * a + i) = v) → (∀ (i : Nat) (v : Int64), i < k → h.2[i]? = some v → f (100 * b + i) = v) → (∀ q, q < 100 * b ∨ 100 * b + 100 ≤ q → f q = S.2.2.2 17 q) → G l mX11_copyHeld 1 0 0 post σ 26 [some (.ref o), some (.int (nI a)), some (.int (nI b)), some (.int (nI k))] [] := by
  obtain ⟨h1, h2, h3, h4⟩ := hh
  have hca : (nI a).toNatClampNeg = a := nI_clamp (by omega)
  have hsz : upd (S.2.2.1 16) b (S.2.2.1 16 a) a = nI h.2.length := by
    by_cases e : a = b
    · subst e; rw [pk_us]; exact h2
    · rw [pk_un e]; exact h2
  intro n
  induction n with
  | zero =>
    intro k f σ hk hM q1 q2 q3
    obtain rfl : k = h.2.length := by omega
    refine g_iload_n (i := 3) dX11_copyHeld_26 rfl rfl ?_
    refine g_aload_n (i := 0) dX11_copyHeld_27 rfl rfl ?_
    refine gm_get hM (k := 16) dX11_copyHeld_28 flX11_47 rfl ?_
    refine g_iload_n (i := 1) dX11_copyHeld_31 rfl rfl ?_
    refine gm_iald hM dX11_copyHeld_32 rfl ((vp_in_nI (show a < 58 by omega) (by decide) : vp_in (nI a) 58)) ?_
    refine g_toi (nI h.2.length) (by rw [hca]; exact hsz) ?_
    refine g_icmp_ge (tgt := 64) dX11_copyHeld_33 (by decide) (fun zc33 => ?_) (fun zc33 => ?_)
    · refine g_vret dX11_copyHeld_64 rfl ?_
      exact hp _ f hM (fun i v hv => q2 i v (List.getElem?_eq_some_iff.mp hv).1 hv) q3
    · exact absurd (nI_le (Nat.le_refl _) (by omega)) zc33
  | succ n ih =>
    intro k f σ hk hM q1 q2 q3
    have hkl : k < h.2.length := by omega
    have hcA : (nI (100 * a + k)).toNatClampNeg = 100 * a + k := nI_clamp (by omega)
    have hcB : (nI (100 * b + k)).toNatClampNeg = 100 * b + k := nI_clamp (by omega)
    refine g_iload_n (i := 3) dX11_copyHeld_26 rfl rfl ?_
    refine g_aload_n (i := 0) dX11_copyHeld_27 rfl rfl ?_
    refine gm_get hM (k := 16) dX11_copyHeld_28 flX11_47 rfl ?_
    refine g_iload_n (i := 1) dX11_copyHeld_31 rfl rfl ?_
    refine gm_iald hM dX11_copyHeld_32 rfl ((vp_in_nI (show a < 58 by omega) (by decide) : vp_in (nI a) 58)) ?_
    refine g_toi (nI h.2.length) (by rw [hca]; exact hsz) ?_
    refine g_icmp_ge (tgt := 64) dX11_copyHeld_33 (by decide) (fun zc33 => ?_) (fun zc33 => ?_)
    · exact absurd zc33 (nI_ge (by omega) (by omega))
    · refine g_aload_n (i := 0) dX11_copyHeld_36 rfl rfl ?_
      refine gm_get hM (k := 17) dX11_copyHeld_37 flX11_50 rfl ?_
      refine g_bipush (v := 100) dX11_copyHeld_40 (by decide) ?_
      refine g_iload_n (i := 2) dX11_copyHeld_42 rfl rfl ?_
      refine g_imul dX11_copyHeld_43 ?_
      refine g_iload_n (i := 3) dX11_copyHeld_44 rfl rfl ?_
      refine g_iadd dX11_copyHeld_45 ?_
      rw [ix100]
      refine g_aload_n (i := 0) dX11_copyHeld_46 rfl rfl ?_
      refine gm_get hM (k := 17) dX11_copyHeld_47 flX11_50 rfl ?_
      refine g_bipush (v := 100) dX11_copyHeld_50 (by decide) ?_
      refine g_iload_n (i := 1) dX11_copyHeld_52 rfl rfl ?_
      refine g_imul dX11_copyHeld_53 ?_
      refine g_iload_n (i := 3) dX11_copyHeld_54 rfl rfl ?_
      refine g_iadd dX11_copyHeld_55 ?_
      rw [ix100]
      refine gm_lald hM dX11_copyHeld_56 rfl ((vp_in_nI (show 100 * a + k < 5800 by omega) (by decide) : vp_in (nI (100 * a + k)) 5800)) ?_
      refine g_tol (f (100 * a + k)) (by rw [hcA]; rfl) ?_
      refine gm_last hM dX11_copyHeld_57 rfl ((vp_in_nI (show 100 * b + k < 5800 by omega) (by decide) : vp_in (nI (100 * b + k)) 5800)) (fun σ hM => ?_)
      refine g_iinc (v := _ + 1) (ls' := [_, _, _, _]) dX11_copyHeld_58 rfl rfl (by decide) rfl rfl ?_
      refine g_goto (tgt := 26) dX11_copyHeld_61 (by decide) ?_
      rw [uJ_uJ, hcB] at hM
      rw [nI_1]
      refine ih (k + 1) (vp_updL f (100 * b + k) (f (100 * a + k))) σ (by omega) ?_ ?_ ?_ ?_
      · exact hM
      · intro i v hv
        have hi := (List.getElem?_eq_some_iff.mp hv).1
        by_cases e : 100 * a + i = 100 * b + k
        · have : a = b := by omega
          subst this
          have : i = k := by omega
          subst this
          rw [pk_uLs]; exact q1 i v hv
        · rw [pk_uLn e]; exact q1 i v hv
      · intro i v hik hv
        by_cases e : i = k
        · subst e; rw [pk_uLs]; exact q1 i v hv
        · rw [pk_uLn (by omega)]; exact q2 i v (by omega) hv
      · intro q hq
        rw [pk_uLn (by omega)]; exact q3 q hq
theorem c_X11_copyHeld {σ : gH} (hM : Mm σ o ad S) {a b : Nat} (ha : a < 58) (hb : b < 58) {h : aHd} (hh : hdR S a h) : Ct l mX11_copyHeld 1 0 0 [.ref o, .int (nI a), .int (nI b)] σ (pV fun σ' => ∃ S', Mm σ' o ad S' ∧ sA S S' [15, 16] [17] ∧ hdR S' b h ∧ ∀ j h', j ≠ b → hdR S j h' → hdR S' j h') := by
  have hca : (nI a).toNatClampNeg = a := nI_clamp (by omega)
  have hcb : (nI b).toNatClampNeg = b := nI_clamp (by omega)
  refine Ct_of moX11_copyHeld [some (.ref o), some (.int (nI a)), some (.int (nI b)), none] rfl (Nat.le_of_ble_eq_true rfl) ?_
  refine g_aload_n (i := 0) dX11_copyHeld_0 rfl rfl ?_
  refine gm_get hM (k := 15) dX11_copyHeld_1 flX11_44 rfl ?_
  refine g_iload_n (i := 2) dX11_copyHeld_4 rfl rfl ?_
  refine g_aload_n (i := 0) dX11_copyHeld_5 rfl rfl ?_
  refine gm_get hM (k := 15) dX11_copyHeld_6 flX11_44 rfl ?_
  refine g_iload_n (i := 1) dX11_copyHeld_9 rfl rfl ?_
  refine gm_iald hM dX11_copyHeld_10 rfl ((vp_in_nI (show a < 58 by omega) (by decide) : vp_in (nI a) 58)) ?_
  refine gm_iast hM dX11_copyHeld_11 rfl ((vp_in_nI (show b < 58 by omega) (by decide) : vp_in (nI b) 58)) (fun σ hM => ?_)
  refine g_aload_n (i := 0) dX11_copyHeld_12 rfl rfl ?_
  refine gm_get hM (k := 16) dX11_copyHeld_13 flX11_47 rfl ?_
  refine g_iload_n (i := 2) dX11_copyHeld_16 rfl rfl ?_
  refine g_aload_n (i := 0) dX11_copyHeld_17 rfl rfl ?_
  refine gm_get hM (k := 16) dX11_copyHeld_18 flX11_47 rfl ?_
  refine g_iload_n (i := 1) dX11_copyHeld_21 rfl rfl ?_
  refine gm_iald hM dX11_copyHeld_22 rfl ((vp_in_nI (show a < 58 by omega) (by decide) : vp_in (nI a) 58)) ?_
  refine gm_iast hM dX11_copyHeld_23 rfl ((vp_in_nI (show b < 58 by omega) (by decide) : vp_in (nI b) 58)) (fun σ hM => ?_)
  refine g_iconst (v := 0) dX11_copyHeld_24 (by decide) ?_
  refine g_istore_n (i := 3) (ls' := [_, _, _, _]) dX11_copyHeld_25 rfl (by decide) rfl rfl ?_
  rw [hca, hcb] at hM
  have e : uJ (uI (uI S 15 (upd (S.2.2.1 15) b (S.2.2.1 15 a))) 16 (upd (S.2.2.1 16) b (S.2.2.1 16 a))) 17 (S.2.2.2 17) = uI (uI S 15 (upd (S.2.2.1 15) b (S.2.2.1 15 a))) 16 (upd (S.2.2.1 16) b (S.2.2.1 16 a)) := by
    unfold uJ uI
    simp only
    congr 3
    funext q
    by_cases e : q = 17 <;> simp [va_up, e]
  refine lp_X11_copyHeld (S := S) ha hb hh ?_ h.2.length 0 (S.2.2.2 17) σ (by omega) (by rw [e]; exact hM) hh.2.2.2 (fun i v hi => absurd hi (Nat.not_lt_zero _)) (fun _ _ => rfl)
  intro σ' f m1 m2 m3
  refine ⟨rfl, _, m1, (((sA.rf S _ _).uI (by decide) _).uI (by decide) _).uJ (by decide) _, ?_, ?_⟩
  · refine ⟨?_, ?_, hh.2.2.1, m2⟩
    · show upd _ b _ b = _; rw [pk_us]; exact hh.1
    · show upd _ b _ b = _; rw [pk_us]; exact hh.2.1
  · intro j h' hj hr
    obtain ⟨r1, r2, r3, r4⟩ := hr
    refine ⟨?_, ?_, r3, fun i v hv => ?_⟩
    · show upd _ b _ j = _; rw [pk_un hj]; exact r1
    · show upd _ b _ j = _; rw [pk_un hj]; exact r2
    · have := (List.getElem?_eq_some_iff.mp hv).1
      show f _ = _
      rw [m3 (100 * j + i) (by omega)]; exact r4 i v hv
theorem c_X11_moveAct {σ : gH} (hM : Mm σ o ad S) {a b : Nat} (ha : a < 50) (hb : b < 50) {c : aAc} (hc : cR S a c) : Ct l mX11_moveAct 2 0 0 [.ref o, .int (nI a), .int (nI b)] σ (pV fun σ' => ∃ S', Mm σ' o ad S' ∧ sA S S' [11, 12, 13, 15, 16] [14, 17] ∧ cR S' b c ∧ (∀ j c', j ≠ b → cR S j c' → cR S' j c') ∧ ∀ j h', j < 8 → hdR S j h' → hdR S' j h') := by
  have hca : (nI a).toNatClampNeg = a := nI_clamp (by omega)
  have hcb : (nI b).toNatClampNeg = b := nI_clamp (by omega)
  have hA : vp_in (nI a) 50 := vp_in_nI ha (by decide)
  have hB : vp_in (nI b) 50 := vp_in_nI hb (by decide)
  obtain ⟨e1, e2, e3, e4, h0, e5, e6⟩ := hc
  refine Ct_of moX11_moveAct [some (.ref o), some (.int (nI a)), some (.int (nI b))] rfl (Nat.le_of_ble_eq_true rfl) ?_
  refine g_aload_n (i := 0) dX11_moveAct_0 rfl rfl ?_
  refine gm_get hM (k := 11) dX11_moveAct_1 flX11_32 rfl ?_
  refine g_iload_n (i := 2) dX11_moveAct_4 rfl rfl ?_
  refine g_aload_n (i := 0) dX11_moveAct_5 rfl rfl ?_
  refine gm_get hM (k := 11) dX11_moveAct_6 flX11_32 rfl ?_
  refine g_iload_n (i := 1) dX11_moveAct_9 rfl rfl ?_
  refine gm_iald hM dX11_moveAct_10 rfl (hA) ?_
  refine gm_iast hM dX11_moveAct_11 rfl (hB) (fun σ hM => ?_)
  refine g_aload_n (i := 0) dX11_moveAct_12 rfl rfl ?_
  refine gm_get hM (k := 12) dX11_moveAct_13 flX11_35 rfl ?_
  refine g_iload_n (i := 2) dX11_moveAct_16 rfl rfl ?_
  refine g_aload_n (i := 0) dX11_moveAct_17 rfl rfl ?_
  refine gm_get hM (k := 12) dX11_moveAct_18 flX11_35 rfl ?_
  refine g_iload_n (i := 1) dX11_moveAct_21 rfl rfl ?_
  refine gm_iald hM dX11_moveAct_22 rfl (hA) ?_
  refine gm_iast hM dX11_moveAct_23 rfl (hB) (fun σ hM => ?_)
  refine g_aload_n (i := 0) dX11_moveAct_24 rfl rfl ?_
  refine gm_get hM (k := 13) dX11_moveAct_25 flX11_38 rfl ?_
  refine g_iload_n (i := 2) dX11_moveAct_28 rfl rfl ?_
  refine g_aload_n (i := 0) dX11_moveAct_29 rfl rfl ?_
  refine gm_get hM (k := 13) dX11_moveAct_30 flX11_38 rfl ?_
  refine g_iload_n (i := 1) dX11_moveAct_33 rfl rfl ?_
  refine gm_iald hM dX11_moveAct_34 rfl (hA) ?_
  refine gm_iast hM dX11_moveAct_35 rfl (hB) (fun σ hM => ?_)
  refine g_aload_n (i := 0) dX11_moveAct_36 rfl rfl ?_
  refine gm_get hM (k := 14) dX11_moveAct_37 flX11_41 rfl ?_
  refine g_iload_n (i := 2) dX11_moveAct_40 rfl rfl ?_
  refine g_aload_n (i := 0) dX11_moveAct_41 rfl rfl ?_
  refine gm_get hM (k := 14) dX11_moveAct_42 flX11_41 rfl ?_
  refine g_iload_n (i := 1) dX11_moveAct_45 rfl rfl ?_
  refine gm_lald hM dX11_moveAct_46 rfl (hA) ?_
  refine gm_last hM dX11_moveAct_47 rfl (hB) (fun σ hM => ?_)
  refine g_aload_n (i := 0) dX11_moveAct_48 rfl rfl ?_
  refine g_bipush (v := 8) dX11_moveAct_49 (by decide) ?_
  refine g_iload_n (i := 1) dX11_moveAct_51 rfl rfl ?_
  refine g_iadd dX11_moveAct_52 ?_
  refine g_toi (nI (8 + a)) (by rw [show (8 : Int32) = nI 8 from rfl, nI_add]) ?_
  refine g_bipush (v := 8) dX11_moveAct_53 (by decide) ?_
  refine g_iload_n (i := 2) dX11_moveAct_55 rfl rfl ?_
  refine g_iadd dX11_moveAct_56 ?_
  refine g_toi (nI (8 + b)) (by rw [show (8 : Int32) = nI 8 from rfl, nI_add]) ?_
  rw [hca, hcb] at hM
  refine g_callVv (My := mX11_copyHeld) [_, _] dX11_moveAct_57 lkX11_143 mvX11_copyHeld rfl hM.1 rfl (c_X11_copyHeld hM (show 8 + a < 58 by omega) (show 8 + b < 58 by omega) (h := h0) (e5.of rfl rfl rfl)) (by decide) (by decide) (by decide) rfl (Nat.le_of_ble_eq_true rfl) (fun σ zh57 => ?_)
  obtain ⟨S', hM, hs, h1, h2⟩ := zh57
  refine g_vret dX11_moveAct_60 rfl ?_
  have hs2 := (((((sA.rf S [11, 12, 13, 15, 16] [14, 17]).uI (k := 11) (by decide) (upd (S.2.2.1 11) b (S.2.2.1 11 a))).uI (k := 12) (by decide) (upd (S.2.2.1 12) b (S.2.2.1 12 a))).uI (k := 13) (by decide) (upd (S.2.2.1 13) b (S.2.2.1 13 a))).uJ (k := 14) (by decide) (vp_updL (S.2.2.2 14) b (S.2.2.2 14 a))).tr hs (by decide) (by decide)
  have g11 : S'.2.2.1 11 = upd (S.2.2.1 11) b (S.2.2.1 11 a) := hs.2.2.1 11 (by decide)
  have g12 : S'.2.2.1 12 = upd (S.2.2.1 12) b (S.2.2.1 12 a) := hs.2.2.1 12 (by decide)
  have g13 : S'.2.2.1 13 = upd (S.2.2.1 13) b (S.2.2.1 13 a) := hs.2.2.1 13 (by decide)
  have g14 : S'.2.2.2 14 = vp_updL (S.2.2.2 14) b (S.2.2.2 14 a) := hs.2.2.2 14 (by decide)
  refine ⟨rfl, S', hM, hs2, ⟨?_, ?_, ?_, ?_, h0, h1, e6⟩, ?_, ?_⟩
  · rw [g11, pk_us]; exact e1
  · rw [g12, pk_us]; exact e2
  · rw [g13, pk_us]; exact e3
  · rw [g14, pk_uLs]; exact e4
  · intro j c' hj hr
    obtain ⟨r1, r2, r3, r4, h', r5, r6⟩ := hr
    exact ⟨by rw [g11, pk_un hj]; exact r1, by rw [g12, pk_un hj]; exact r2, by rw [g13, pk_un hj]; exact r3, by rw [g14, pk_uLn hj]; exact r4, h', h2 _ h' (by omega) (r5.of rfl rfl rfl), r6⟩
  · intro j h' hj hr
    exact h2 j h' (by omega) (hr.of rfl rfl rfl)
end CMhist
