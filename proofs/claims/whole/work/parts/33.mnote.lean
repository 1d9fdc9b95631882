/-! the reference: an act is noted -/
def aSetHs (A : aA) (h : List aAc) : aA := (A.1, A.2.1, A.2.2.1, A.2.2.2.1, h, A.2.2.2.2.2)
def aNote (A : aA) (c : aAc) : aA := aSetHs A ((if 50 ≤ A.2.2.2.2.1.length then A.2.2.2.2.1.drop 1 else A.2.2.2.2.1) ++ [c])
/-- RepM after a change of the acts alone -/
theorem RepM.hist {S S' : mS} {A : aA} (q : RepM S A) (L : List aAc) (h1 : ∀ k ∈ [2, 28], S'.1 k = S.1 k) (h2 : ∀ k ∈ [3, 4, 5, 6, 8], S'.2.2.1 k = S.2.2.1 k) (h3 : ∀ k ∈ [7, 27], S'.2.2.2 k = S.2.2.2 k) (hh : ∀ j h', j < 8 → hdR S j h' → hdR S' j h') (hn : S'.1 10 = nI L.length) (hl : L.length ≤ 50) (hc : ∀ (j : Nat) (a : aAc), L[j]? = some a → cR S' j a) : RepM S' (aSetHs A L) := by
  obtain ⟨⟨a1, a2, a3⟩, b, c, d, -, f1, f2⟩ := q
  refine ⟨⟨by rw [h1 2 (by decide)]; exact a1, a2, fun f g hg => (a3 f g hg).of (fun k hk => h2 k ?_) (h3 7 (by decide))⟩, fun k hk => by rw [h2 8 (by decide)]; exact b k hk, fun k hk => by rw [h3 27 (by decide)]; exact c k hk, fun h hh' => hh h _ hh' (d h hh'), ⟨hn, hl, hc⟩, by rw [h1 28 (by decide)]; exact f1, f2⟩
  simp only [List.mem_cons, List.not_mem_nil, or_false] at hk ⊢
  omega
section CMnote
variable {l : Launch} {o : Nat} {ad : Nat → Nat} {S : mS} {A : aA}
theorem t_X11_note {σ : gH} (hM : Mm σ o ad S) (hR : RepM S A) {n : Nat} (hn : A.2.2.2.2.1.length = n) (hn50 : n < 50) (k w p : Nat) (was : Int64) (x6 : Option Value) {post : Option Value → gH → Prop} (hp : ∀ (σ' : gH) (S' : mS) (k0 : Int32), Mm σ' o ad S' → RepM S' (aSetHs A (A.2.2.2.2.1 ++ [(k, w, p, was, (k0, []))])) → S'.2.1 = S.2.1 → (∀ j, j ≠ 10 → S'.1 j = S.1 j) → post none σ') : G l mX11_note 3 0 0 post σ 47 [some (.ref o), some (.int (nI k)), some (.int (nI w)), some (.int (nI p)), some (.long was), none, x6] [] := by
  have e10 : S.1 10 = nI n := by rw [← hn]; exact hR.2.2.2.2.1.1
  have hcn : (nI n).toNatClampNeg = n := nI_clamp (by omega)
  have hc8 : (nI (8 + n)).toNatClampNeg = 8 + n := nI_clamp (by omega)
  have hI : vp_in (nI n) 50 := vp_in_nI hn50 (by decide)
  refine g_aload_n (i := 0) dX11_note_47 rfl rfl ?_
  refine gm_get hM (k := 11) dX11_note_48 flX11_32 rfl ?_
  refine g_aload_n (i := 0) dX11_note_51 rfl rfl ?_
  refine gm_get hM (k := 10) dX11_note_52 flX11_147 rfl ?_
  refine g_toi (nI n) e10 ?_
  refine g_iload_n (i := 1) dX11_note_55 rfl rfl ?_
  refine gm_iast hM dX11_note_56 rfl (hI) (fun σ hM => ?_)
  refine g_aload_n (i := 0) dX11_note_57 rfl rfl ?_
  refine gm_get hM (k := 12) dX11_note_58 flX11_35 rfl ?_
  refine g_aload_n (i := 0) dX11_note_61 rfl rfl ?_
  refine gm_get hM (k := 10) dX11_note_62 flX11_147 rfl ?_
  refine g_toi (nI n) e10 ?_
  refine g_iload_n (i := 2) dX11_note_65 rfl rfl ?_
  refine gm_iast hM dX11_note_66 rfl (hI) (fun σ hM => ?_)
  refine g_aload_n (i := 0) dX11_note_67 rfl rfl ?_
  refine gm_get hM (k := 13) dX11_note_68 flX11_38 rfl ?_
  refine g_aload_n (i := 0) dX11_note_71 rfl rfl ?_
  refine gm_get hM (k := 10) dX11_note_72 flX11_147 rfl ?_
  refine g_toi (nI n) e10 ?_
  refine g_iload_n (i := 3) dX11_note_75 rfl rfl ?_
  refine gm_iast hM dX11_note_76 rfl (hI) (fun σ hM => ?_)
  refine g_aload_n (i := 0) dX11_note_77 rfl rfl ?_
  refine gm_get hM (k := 14) dX11_note_78 flX11_41 rfl ?_
  refine g_aload_n (i := 0) dX11_note_81 rfl rfl ?_
  refine gm_get hM (k := 10) dX11_note_82 flX11_147 rfl ?_
  refine g_toi (nI n) e10 ?_
  refine g_lload dX11_note_85 rfl ?_
  refine gm_last hM dX11_note_87 rfl (hI) (fun σ hM => ?_)
  refine g_aload_n (i := 0) dX11_note_88 rfl rfl ?_
  refine gm_get hM (k := 16) dX11_note_89 flX11_47 rfl ?_
  refine g_bipush (v := 8) dX11_note_92 (by decide) ?_
  refine g_aload_n (i := 0) dX11_note_94 rfl rfl ?_
  refine gm_get hM (k := 10) dX11_note_95 flX11_147 rfl ?_
  refine g_toi (nI n) e10 ?_
  refine g_iadd dX11_note_98 ?_
  refine g_toi (nI (8 + n)) (by rw [show (8 : Int32) = nI 8 from rfl, nI_add]) ?_
  refine g_iconst (v := 0) dX11_note_99 (by decide) ?_
  refine gm_iast hM dX11_note_100 rfl ((vp_in_nI (show 8 + n < 58 by omega) (by decide) : vp_in (nI (8 + n)) 58)) (fun σ hM => ?_)
  refine g_aload_n (i := 0) dX11_note_101 rfl rfl ?_
  refine g_dup dX11_note_102 rfl ?_
  refine gm_get hM (k := 10) dX11_note_103 flX11_147 rfl ?_
  refine g_toi (nI n) e10 ?_
  refine g_iconst (v := 1) dX11_note_106 (by decide) ?_
  refine g_iadd dX11_note_107 ?_
  rw [nI_1]
  refine gm_puti hM (k := 10) dX11_note_108 flX11_147 fp9_10 (by decide) (fun σ hM => ?_)
  refine g_vret dX11_note_111 rfl ?_
  rw [hcn, hc8] at hM
  refine hp _ _ (S.2.2.1 15 (8 + n)) hM ?_ rfl (fun j hj => va_up_ne _ _ hj)
  refine hR.hist _ (fun k hk => ?_) (fun k hk => ?_) (fun k hk => ?_) (fun j h' hj hr => ?_) ?_ ?_ (fun j a ha => ?_)
  · simp only [List.mem_cons, List.not_mem_nil, or_false] at hk
    rcases hk with rfl | rfl <;> rfl
  · simp only [List.mem_cons, List.not_mem_nil, or_false] at hk
    rcases hk with rfl | rfl | rfl | rfl | rfl <;> rfl
  · simp only [List.mem_cons, List.not_mem_nil, or_false] at hk
    rcases hk with rfl | rfl <;> rfl
  · obtain ⟨r1, r2, r3, r4⟩ := hr
    exact ⟨r1, by show upd _ (8 + n) _ j = _; rw [pk_un (by omega)]; exact r2, r3, r4⟩
  · rw [List.length_append, hn]; rfl
  · rw [List.length_append, hn]; exact hn50
  · by_cases hj : j < n
    · rw [List.getElem?_append_left (by rw [hn]; exact hj)] at ha
      obtain ⟨r1, r2, r3, r4, h', ⟨s1, s2, s3, s4⟩, r6⟩ := hR.2.2.2.2.1.2.2 j a ha
      refine ⟨?_, ?_, ?_, ?_, h', ⟨s1, ?_, s3, s4⟩, r6⟩
      · show upd _ n _ j = _; rw [pk_un (by omega)]; exact r1
      · show upd _ n _ j = _; rw [pk_un (by omega)]; exact r2
      · show upd _ n _ j = _; rw [pk_un (by omega)]; exact r3
      · show vp_updL _ n _ j = _; rw [pk_uLn (by omega)]; exact r4
      · show upd _ (8 + n) _ (8 + j) = _; rw [pk_un (by omega)]; exact s2
    · have hjn : j = n := by
        have := (List.getElem?_eq_some_iff.mp ha).1
        rw [List.length_append, hn] at this
        simp only [List.length_cons, List.length_nil] at this
        omega
      subst hjn
      rw [← hn, List.getElem?_append_right (Nat.le_refl _), Nat.sub_self] at ha
      cases ha
      refine ⟨?_, ?_, ?_, ?_, (S.2.2.1 15 (8 + j), []), ⟨rfl, ?_, Nat.zero_le _, fun i v hv => by simp at hv⟩, fun _ => by show (S.2.2.1 15 (8 + j), ([] : List Int64)) = (S.2.2.1 15 (8 + A.2.2.2.2.1.length), []); rw [hn]⟩
      · show upd _ j _ j = _; rw [pk_us]
      · show upd _ j _ j = _; rw [pk_us]
      · show upd _ j _ j = _; rw [pk_us]
      · show vp_updL _ j _ j = _; rw [pk_uLs]
      · show upd _ (8 + j) _ (8 + j) = _; rw [pk_us]; rfl
theorem lp_X11_note (hR : RepM S A) (hn : A.2.2.2.2.1.length = 50) (k w p : Nat) (was : Int64) {post : Option Value → gH → Prop} (hp : ∀ (σ' : gH) (S' : mS) (k0 : Int32), Mm σ' o ad S' → RepM S' (aSetHs A (A.2.2.2.2.1.drop 1 ++ [(k, w, p, was, (k0, []))])) → S'.2.1 = S.2.1 → (∀ j, j ≠ 10 → S'.1 j = S.1 j) → post none σ') :
    ∀ (n i : Nat) (S1 : mS) (σ : gH), i + n = 49 → Mm σ o ad S1 → sA S S1 [11, 12, 13, 15, 16] [14, 17] → (∀ j h', j < 8 → hdR S j h' → hdR S1 j h') → (∀ j a, j < i → A.2.2.2.2.1[j + 1]? = some a → cR S1 j a) → (∀ j a, i ≤ j → A.2.2.2.2.1[j]? = some a → cR S1 j a) → G l mX11_note 3 0 0 post σ 12 [some (.ref o), some (.int (nI k)), some (.int (nI w)), some (.int (nI p)), some (.long was), none, some (.int (nI i))] [] := by
  intro n
  induction n with
  | zero =>
    intro i S1 σ hi hM hs q1 q2 q3
    obtain rfl : i = 49 := by omega
    refine g_iload dX11_note_12 rfl ?_
    refine g_iconst (v := 1) dX11_note_14 (by decide) ?_
    refine g_iadd dX11_note_15 ?_
    refine g_bipush (v := 50) dX11_note_16 (by decide) ?_
    refine g_icmp_ge (tgt := 37) dX11_note_18 (by decide) (fun zc18 => ?_) (fun zc18 => ?_)
    · refine g_aload_n (i := 0) dX11_note_37 rfl rfl ?_
      refine g_dup dX11_note_38 rfl ?_
      refine gm_get hM (k := 10) dX11_note_39 flX11_147 rfl ?_
      refine g_iconst (v := 1) dX11_note_42 (by decide) ?_
      refine g_isub dX11_note_43 ?_
      refine gm_puti hM (k := 10) dX11_note_44 flX11_147 fp9_10 (by decide) (fun σ hM => ?_)
      refine t_X11_note (S := ui S1 10 (S1.1 10 - 1)) (A := aSetHs A (A.2.2.2.2.1.drop 1)) hM ?_ (n := 49) (by show (A.2.2.2.2.1.drop 1).length = 49; rw [List.length_drop, hn]) (by decide) k w p was _ (fun σ' S' k0 m1 m2 m3 m4 => hp σ' S' k0 m1 m2 (m3.trans hs.2.1) (fun j hj => (m4 j hj).trans ((va_up_ne _ _ hj).trans (by rw [hs.1]))))
      refine hR.hist _ (fun k hk => ?_) (fun k hk => ?_) (fun k hk => ?_) (fun j h' hj hr => (q1 j h' hj hr).of rfl rfl rfl) ?_ ?_ (fun j a ha => ?_)
      · simp only [List.mem_cons, List.not_mem_nil, or_false] at hk
        rw [← hs.1]
        rcases hk with rfl | rfl <;> rfl
      · refine hs.2.2.1 k ?_
        simp only [List.mem_cons, List.not_mem_nil, or_false] at hk ⊢
        omega
      · refine hs.2.2.2 k ?_
        simp only [List.mem_cons, List.not_mem_nil, or_false] at hk ⊢
        omega
      · show S1.1 10 - 1 = _
        rw [hs.1, hR.2.2.2.2.1.1, hn, List.length_drop, hn]
        rfl
      · rw [List.length_drop, hn]; decide
      · rw [List.getElem?_drop, Nat.add_comm] at ha
        have hj := (List.getElem?_eq_some_iff.mp ha).1
        exact (q2 j a (by omega) ha).of (fun _ _ => rfl) rfl rfl
    · exact absurd (by decide) zc18
  | succ n ih =>
    intro i S1 σ hi hM hs q1 q2 q3
    have hi1 : i + 1 < A.2.2.2.2.1.length := by omega
    obtain ⟨c, hc⟩ : ∃ c, A.2.2.2.2.1[i + 1]? = some c := ⟨_, List.getElem?_eq_getElem hi1⟩
    refine g_iload dX11_note_12 rfl ?_
    refine g_iconst (v := 1) dX11_note_14 (by decide) ?_
    refine g_iadd dX11_note_15 ?_
    rw [nI_1]
    refine g_bipush (v := 50) dX11_note_16 (by decide) ?_
    refine g_icmp_ge (tgt := 37) dX11_note_18 (by decide) (fun zc18 => ?_) (fun zc18 => ?_)
    · exact absurd zc18 (nI_ge (b := 50) (by omega) (by decide))
    · refine g_aload_n (i := 0) dX11_note_21 rfl rfl ?_
      refine g_iload dX11_note_22 rfl ?_
      refine g_iconst (v := 1) dX11_note_24 (by decide) ?_
      refine g_iadd dX11_note_25 ?_
      rw [nI_1]
      refine g_iload dX11_note_26 rfl ?_
      refine g_callVv (My := mX11_moveAct) [_, _] dX11_note_28 lkX11_150 mvX11_moveAct rfl hM.1 rfl (c_X11_moveAct hM (show i + 1 < 50 by omega) (show i < 50 by omega) (q3 (i + 1) c (by omega) hc)) (by decide) (by decide) (by decide) rfl (Nat.le_of_ble_eq_true rfl) (fun σ zh28 => ?_)
      obtain ⟨S2, hM, hs2, g1, g2, g3⟩ := zh28
      refine g_iinc (v := _ + 1) (ls' := [_, _, _, _, _, _, _]) dX11_note_31 rfl rfl (by decide) rfl rfl ?_
      refine g_goto (tgt := 12) dX11_note_34 (by decide) ?_
      refine g_cl (by rw [nI_1]) (ih (i + 1) S2 σ (by omega) hM (hs.tr hs2 (fun _ h => h) (fun _ h => h)) (fun j h' hj hr => g3 j h' hj (q1 j h' hj hr)) (fun j a hj ha => ?_) (fun j a hj ha => g2 j a (by omega) (q3 j a (by omega) ha)))
      by_cases e : j = i
      · subst e
        rw [hc] at ha
        cases ha
        exact g1
      · exact g2 j a e (q2 j a (by omega) ha)
theorem c_X11_note {σ : gH} (hM : Mm σ o ad S) (hR : RepM S A) (k w p : Nat) (was : Int64) : Ct l mX11_note 3 0 0 [.ref o, .int (nI k), .int (nI w), .int (nI p), .long was] σ (pV fun σ' => ∃ S' k0, Mm σ' o ad S' ∧ RepM S' (aNote A (k, w, p, was, (k0, []))) ∧ S'.2.1 = S.2.1 ∧ ∀ j, j ≠ 10 → S'.1 j = S.1 j) := by
  have e10 := hR.2.2.2.2.1.1
  have e50 := hR.2.2.2.2.1.2.1
  refine Ct_of moX11_note [some (.ref o), some (.int (nI k)), some (.int (nI w)), some (.int (nI p)), some (.long was), none, none] rfl (Nat.le_of_ble_eq_true rfl) ?_
  by_cases h : A.2.2.2.2.1.length = 50
  · refine g_aload_n (i := 0) dX11_note_0 rfl rfl ?_
    refine gm_get hM (k := 10) dX11_note_1 flX11_147 rfl ?_
    refine g_bipush (v := 50) dX11_note_4 (by decide) ?_
    refine g_icmp_ne (tgt := 47) dX11_note_6 (by decide) (fun zc6 => ?_) (fun zc6 => ?_)
    · exact absurd (by rw [e10, h]; rfl) zc6
    · refine g_iconst (v := 0) dX11_note_9 (by decide) ?_
      refine g_istore (ls' := [_, _, _, _, _, _, _]) dX11_note_10 (by decide) rfl rfl ?_
      exact lp_X11_note (S := S) hR h k w p was (fun σ' S' k0 m1 m2 m3 m4 => ⟨rfl, S', k0, m1, by unfold aNote; rw [if_pos (by omega)]; exact m2, m3, m4⟩) 49 0 S σ rfl hM (sA.rf _ _ _) (fun _ _ _ q => q) (fun j a hj => absurd hj (Nat.not_lt_zero _)) (fun j a _ ha => hR.2.2.2.2.1.2.2 j a ha)
  · refine g_aload_n (i := 0) dX11_note_0 rfl rfl ?_
    refine gm_get hM (k := 10) dX11_note_1 flX11_147 rfl ?_
    refine g_bipush (v := 50) dX11_note_4 (by decide) ?_
    refine g_icmp_ne (tgt := 47) dX11_note_6 (by decide) (fun zc6 => ?_) (fun zc6 => ?_)
    · exact t_X11_note (S := S) hM hR (n := A.2.2.2.2.1.length) rfl (by omega) k w p was _ (fun σ' S' k0 m1 m2 m3 m4 => ⟨rfl, S', k0, m1, by unfold aNote; rw [if_neg (by omega)]; exact m2, m3, m4⟩)
    · exact absurd (by rw [e10] at zc6; exact (nI_eq (by omega) (by decide) (b := 50)).mp zc6) h
end CMnote
