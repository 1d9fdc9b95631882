/-! the reference: hooks -/
def aNar (kind : Int32) (v : Int64) : Int64 := if kind = 2 then v.toInt32.toInt64 else if kind = 3 then v else if kind = 4 then v.toInt32.toInt8.toInt32.toInt64 else v.toInt32.toInt16.toInt32.toInt64
def aRow (g : aF) (kind f : Int32) (k : Nat) : List Int64 := (List.range k).map (fun i => aNar kind (opA g.1 g.2 f.toInt64 k (i + 1)))
def aSetHk (A : aA) (h : Nat) (hd : aHd) : aA := (A.1, A.2.1, A.2.2.1, va_up A.2.2.2.1 h hd, A.2.2.2.2)
noncomputable def sHook (A : aA) (h kind f k : Int32) : Int32 × aA := by
  classical
  exact if (¬ h < 0 ∧ h < 8) ∧ ¬ kind < 0 ∧ kind ≤ 5 then (if kind ≤ 0 then ((A.2.2.2.1 h.toNatClampNeg).1, aSetHk (aNote A (5, h.toNatClampNeg, 0, 0, A.2.2.2.1 h.toNatClampNeg)) h.toNatClampNeg (kind, [])) else match aForm A f with
    | none => (-1, A)
    | some g => if (¬ k < 0 ∧ ¬ nI g.2.length < k) ∧ ¬ (kind = 1 ∧ k = nI g.2.length) then ((A.2.2.2.1 h.toNatClampNeg).1, aSetHk (aNote A (5, h.toNatClampNeg, 0, 0, A.2.2.2.1 h.toNatClampNeg)) h.toNatClampNeg (kind, if kind = 1 then (match g.2[k.toNatClampNeg]? with
        | some s => [s.1.toInt64, s.2.2]
        | none => []) else aRow g kind f k.toNatClampNeg)) else (-1, A)) else (-1, A)
theorem hookFin {S1 S2 : mS} {A1 : aA} (hR : RepM S1 A1) {h : Nat} (hh : h < 8) (kd : Int32) (cells : List Int64) (h12 : cells.length ≤ 12) (h1 : S2.1 = S1.1) (h2 : ∀ k ∈ [3, 4, 5, 6, 8, 11, 12, 13], S2.2.2.1 k = S1.2.2.1 k) (h3 : ∀ k ∈ [7, 14, 27], S2.2.2.2 k = S1.2.2.2 k) (e15 : ∀ j, S2.2.2.1 15 j = if j = h then kd else S1.2.2.1 15 j) (e16 : ∀ j, S2.2.2.1 16 j = if j = h then nI cells.length else S1.2.2.1 16 j) (e17 : ∀ q, q < 100 * h ∨ 100 * h + 100 ≤ q → S2.2.2.2 17 q = S1.2.2.2 17 q) (ec : ∀ (i : Nat) (v : Int64), cells[i]? = some v → S2.2.2.2 17 (100 * h + i) = v) : RepM S2 (aSetHk A1 h (kd, cells)) := by
  refine hR.hooks _ (fun k _ => by rw [h1]) h2 h3 (fun j hj => ?_) (fun j h' hj hr => ?_)
  · by_cases e : j = h
    · subst e
      rw [va_up_self]
      exact ⟨by rw [e15, if_pos rfl], by rw [e16, if_pos rfl], h12, ec⟩
    · rw [va_up_ne _ _ e]
      obtain ⟨s1, s2, s3, s4⟩ := hR.2.2.2.1 j hj
      refine ⟨by rw [e15, if_neg e]; exact s1, by rw [e16, if_neg e]; exact s2, s3, fun i v hv => ?_⟩
      have hi := (List.getElem?_eq_some_iff.mp hv).1
      rw [e17 _ (by omega)]
      exact s4 i v hv
  · obtain ⟨s1, s2, s3, s4⟩ := hr
    have e : ¬ j = h := by omega
    refine ⟨by rw [e15, if_neg e]; exact s1, by rw [e16, if_neg e]; exact s2, s3, fun i v hv => ?_⟩
    have hi := (List.getElem?_eq_some_iff.mp hv).1
    rw [e17 _ (by omega)]
    exact s4 i v hv
section CMhook
variable {l : Launch} {o : Nat} {ad : Nat → Nat} {S : mS} {A : aA} {σ : gH}
theorem t64_X11_hook (hM : Mm σ o ad S) (hR : RepM S A) {h : Nat} (hh : h < 8) (kind f k : Int32) {post : Option Value → gH → Prop} (hp : ∀ (σ' : gH) (S1 : mS), Mm σ' o ad (uI (uI S1 15 (upd (S1.2.2.1 15) h kind)) 16 (upd (S1.2.2.1 16) h 0)) → RepM S1 (aNote A (5, h, 0, 0, A.2.2.2.1 h)) → G l mX11_hook 5 0 0 post σ' 108 [some (.ref o), some (.int (nI h)), some (.int kind), some (.int f), some (.int k), some (.int (A.2.2.2.1 h).1), none, none, none] []) : G l mX11_hook 5 0 0 post σ 64 [some (.ref o), some (.int (nI h)), some (.int kind), some (.int f), some (.int k), none, none, none, none] [] := by
  have hch : (nI h).toNatClampNeg = h := nI_clamp (by omega)
  have hH : vp_in (nI h) 58 := vp_in_nI (by omega) (by decide)
  have h50 := hR.2.2.2.2.1.2.1
  refine g_aload_n (i := 0) dX11_hook_64 rfl rfl ?_
  refine gm_get hM (k := 15) dX11_hook_65 flX11_44 rfl ?_
  refine g_iload_n (i := 1) dX11_hook_68 rfl rfl ?_
  refine gm_iald hM dX11_hook_69 rfl (hH) ?_
  refine g_toi (A.2.2.2.1 h).1 (by rw [hch]; exact (hR.2.2.2.1 h hh).1) ?_
  refine g_istore (ls' := [_, _, _, _, _, _, _, _, _]) dX11_hook_70 (by decide) rfl rfl ?_
  refine g_aload_n (i := 0) dX11_hook_72 rfl rfl ?_
  refine g_iconst (v := 5) dX11_hook_73 (by decide) ?_
  refine g_iload_n (i := 1) dX11_hook_74 rfl rfl ?_
  refine g_iconst (v := 0) dX11_hook_75 (by decide) ?_
  refine g_lconst (v := 0) dX11_hook_76 (by decide) ?_
  refine g_callVv (My := mX11_note) [_, _, _, _] dX11_hook_77 lkX11_160 mvX11_note rfl hM.1 rfl (c_X11_note hM hR 5 h 0 0) (by decide) (by decide) (by decide) rfl (Nat.le_of_ble_eq_true rfl) (fun σ zh77 => ?_)
  obtain ⟨S1, k0, hM, hR1, -, -⟩ := zh77
  generalize hL0 : (if 50 ≤ A.2.2.2.2.1.length then A.2.2.2.2.1.drop 1 else A.2.2.2.2.1) = L0 at *
  have hA1 : aNote A (5, h, 0, 0, (k0, [])) = aSetHs A (L0 ++ [(5, h, 0, 0, (k0, []))]) := by unfold aNote; rw [hL0]
  have hA2 : aNote A (5, h, 0, 0, A.2.2.2.1 h) = aSetHs A (L0 ++ [(5, h, 0, 0, A.2.2.2.1 h)]) := by unfold aNote; rw [hL0]
  rw [hA1] at hR1
  have hl0 : L0.length < 50 := by
    have := hR1.2.2.2.2.1.2.1
    simp only [aSetHs, List.length_append, List.length_cons, List.length_nil] at this
    omega
  have e10 : S1.1 10 = nI (L0.length + 1) := by
    have := hR1.2.2.2.2.1.1
    simp only [aSetHs, List.length_append, List.length_cons, List.length_nil] at this
    exact this
  refine g_aload_n (i := 0) dX11_hook_80 rfl rfl ?_
  refine g_iload_n (i := 1) dX11_hook_81 rfl rfl ?_
  refine g_bipush (v := 8) dX11_hook_82 (by decide) ?_
  refine g_aload_n (i := 0) dX11_hook_84 rfl rfl ?_
  refine gm_get hM (k := 10) dX11_hook_85 flX11_147 rfl ?_
  refine g_toi (nI (L0.length + 1)) e10 ?_
  refine g_iadd dX11_hook_88 ?_
  refine g_toi (nI (8 + L0.length + 1)) (by rw [show (8 : Int32) = nI 8 from rfl]; exact nI_add _ _) ?_
  refine g_iconst (v := 1) dX11_hook_89 (by decide) ?_
  refine g_isub dX11_hook_90 ?_
  rw [nI_pred]
  refine g_callVv (My := mX11_copyHeld) [_, _] dX11_hook_91 lkX11_143 mvX11_copyHeld rfl hM.1 rfl (c_X11_copyHeld hM (show h < 58 by omega) (show 8 + L0.length < 58 by omega) (hR1.2.2.2.1 h hh)) (by decide) (by decide) (by decide) rfl (Nat.le_of_ble_eq_true rfl) (fun σ zh91 => ?_)
  obtain ⟨S2, hM, hs, k1, k2⟩ := zh91
  have hR2 : RepM S2 (aNote A (5, h, 0, 0, A.2.2.2.1 h)) := by
    rw [hA2]
    refine hR1.hist (L0 ++ [(5, h, 0, 0, A.2.2.2.1 h)]) (fun q hq => by rw [hs.1]) (fun q hq => hs.2.2.1 q ?_) (fun q hq => hs.2.2.2 q ?_) (fun j h' hj hr => k2 j h' (by omega) hr) ?_ ?_ (fun j a ha => ?_)
    · simp only [List.mem_cons, List.not_mem_nil, or_false] at hq ⊢
      omega
    · simp only [List.mem_cons, List.not_mem_nil, or_false] at hq ⊢
      omega
    · rw [hs.1, e10, List.length_append]; rfl
    · rw [List.length_append]; exact hl0
    · have i11 : S2.2.2.1 11 = S1.2.2.1 11 := hs.2.2.1 11 (by decide)
      have i12 : S2.2.2.1 12 = S1.2.2.1 12 := hs.2.2.1 12 (by decide)
      have i13 : S2.2.2.1 13 = S1.2.2.1 13 := hs.2.2.1 13 (by decide)
      have i14 : S2.2.2.2 14 = S1.2.2.2 14 := hs.2.2.2 14 (by decide)
      by_cases hj : j < L0.length
      · rw [List.getElem?_append_left hj] at ha
        obtain ⟨r1, r2, r3, r4, h', r5, r6⟩ := hR1.2.2.2.2.1.2.2 j a (by show (L0 ++ _)[j]? = _; rw [List.getElem?_append_left hj]; exact ha)
        exact ⟨by rw [i11]; exact r1, by rw [i12]; exact r2, by rw [i13]; exact r3, by rw [i14]; exact r4, h', k2 _ h' (by omega) r5, r6⟩
      · have hjl := (List.getElem?_eq_some_iff.mp ha).1
        rw [List.length_append] at hjl
        simp only [List.length_cons, List.length_nil] at hjl
        have hje : j = L0.length := by omega
        rw [hje, List.getElem?_append_right (Nat.le_refl _), Nat.sub_self] at ha
        cases ha
        obtain ⟨r1, r2, r3, r4, h', r5, r6⟩ := hR1.2.2.2.2.1.2.2 j (5, h, 0, 0, (k0, [])) (by show (L0 ++ _)[j]? = _; rw [hje, List.getElem?_append_right (Nat.le_refl _), Nat.sub_self]; rfl)
        exact ⟨by rw [i11]; exact r1, by rw [i12]; exact r2, by rw [i13]; exact r3, by rw [i14]; exact r4, A.2.2.2.1 h, by rw [hje]; exact k1, fun _ => rfl⟩
  refine g_aload_n (i := 0) dX11_hook_94 rfl rfl ?_
  refine gm_get hM (k := 15) dX11_hook_95 flX11_44 rfl ?_
  refine g_iload_n (i := 1) dX11_hook_98 rfl rfl ?_
  refine g_iload_n (i := 2) dX11_hook_99 rfl rfl ?_
  refine gm_iast hM dX11_hook_100 rfl (hH) (fun σ hM => ?_)
  refine g_aload_n (i := 0) dX11_hook_101 rfl rfl ?_
  refine gm_get hM (k := 16) dX11_hook_102 flX11_47 rfl ?_
  refine g_iload_n (i := 1) dX11_hook_105 rfl rfl ?_
  refine g_iconst (v := 0) dX11_hook_106 (by decide) ?_
  refine gm_iast hM dX11_hook_107 rfl (hH) (fun σ hM => ?_)
  rw [hch] at hM
  exact hp σ S2 hM hR2
theorem lp_X11_hook {S1 : mS} {A1 : aA} (hR1 : RepM S1 A1) {h : Nat} (hh : h < 8) (kind : Int32) (hkd : ¬ kind ≤ 1) (f : Int32) (r : Int32) (m : Nat) (hm : m ≤ 12) (mk : Nat → Int64) {S3 : mS} (h3a : S3.1 = S1.1) (h3b : ∀ q ∈ [3, 4, 5, 6, 8, 11, 12, 13], S3.2.2.1 q = S1.2.2.1 q) (h3c : ∀ q ∈ [7, 14, 27], S3.2.2.2 q = S1.2.2.2 q) (e15 : ∀ j, S3.2.2.1 15 j = if j = h then kind else S1.2.2.1 15 j) (e16 : ∀ j, S3.2.2.1 16 j = if j = h then nI m else S1.2.2.1 16 j) (e17 : S3.2.2.2 17 = S1.2.2.2 17) (e9 : S3.2.2.2 9 = mk) {post : Option Value → gH → Prop} (hp : ∀ (σ' : gH) (S2 : mS), Mm σ' o ad S2 → RepM S2 (aSetHk A1 h (kind, (List.range m).map (fun i => aNar kind (mk (i + 1))))) → post (some (.int r)) σ') :
    ∀ (n i : Nat) (F : Nat → Int64) (σ : gH) (x7 : Option Value), i + n = m → Mm σ o ad (uJ S3 17 F) → (∀ q, q < 100 * h ∨ 100 * h + 100 ≤ q → F q = S1.2.2.2 17 q) → (∀ q, q < i → F (100 * h + q) = aNar kind (mk (q + 1))) → G l mX11_hook 5 0 0 post σ 193 [some (.ref o), some (.int (nI h)), some (.int kind), some (.int f), some (.int (nI m)), some (.int r), some (.int (nI i)), x7, none] [] := by
  intro n
  induction n with
  | zero =>
    intro i F σ x7 hi hM q1 q2
    obtain rfl : i = m := by omega
    refine g_iload dX11_hook_193 rfl ?_
    refine g_iload dX11_hook_195 rfl ?_
    refine g_icmp_ge (tgt := 269) dX11_hook_197 (by decide) (fun zc197 => ?_) (fun zc197 => ?_)
    · refine g_iload dX11_hook_269 rfl ?_
      refine g_iret dX11_hook_271 rfl ?_
      refine hp _ _ hM (hookFin (S2 := uJ S3 17 F) hR1 hh kind _ (by rw [List.length_map, List.length_range]; exact hm) h3a h3b (fun q hq => ?_) e15 (by rw [List.length_map, List.length_range]; exact e16) q1 (fun j v hv => ?_))
      · rw [← h3c q hq]
        simp only [List.mem_cons, List.not_mem_nil, or_false] at hq
        rcases hq with rfl | rfl | rfl <;> rfl
      · have hj := (List.getElem?_eq_some_iff.mp hv).1
        rw [List.length_map, List.length_range] at hj
        rw [List.getElem?_map, List.getElem?_range hj] at hv
        cases hv
        exact q2 j hj
    · exact absurd (nI_le (Nat.le_refl _) (by omega)) zc197
  | succ n ih =>
    intro i F σ x7 hi hM q1 q2
    have hci : (nI (i + 1)).toNatClampNeg = i + 1 := nI_clamp (by omega)
    have hcq : (nI (100 * h + i)).toNatClampNeg = 100 * h + i := nI_clamp (by omega)
    have tail : ∀ σ' v, v = aNar kind (mk (i + 1)) → Mm σ' o ad (uJ S3 17 (vp_updL F (100 * h + i) v)) → ∀ x7', G l mX11_hook 5 0 0 post σ' 193 [some (.ref o), some (.int (nI h)), some (.int kind), some (.int f), some (.int (nI m)), some (.int r), some (.int (nI (i + 1))), x7', none] [] := by
      intro σ' v hv hM' x7'
      refine ih (i + 1) _ σ' x7' (by omega) hM' (fun q hq => ?_) (fun q hq => ?_)
      · rw [pk_uLn (by omega)]; exact q1 q hq
      · by_cases e : q = i
        · subst e; rw [pk_uLs]; exact hv
        · rw [pk_uLn (by omega)]; exact q2 q (by omega)
    refine g_iload dX11_hook_193 rfl ?_
    refine g_iload dX11_hook_195 rfl ?_
    refine g_icmp_ge (tgt := 269) dX11_hook_197 (by decide) (fun zc197 => ?_) (fun zc197 => ?_)
    · exact absurd zc197 (nI_ge (by omega) (by omega))
    · refine g_aload_n (i := 0) dX11_hook_200 rfl rfl ?_
      refine gm_get hM (k := 9) dX11_hook_201 flX11_29 rfl ?_
      refine g_iload dX11_hook_204 rfl ?_
      refine g_iconst (v := 1) dX11_hook_206 (by decide) ?_
      refine g_iadd dX11_hook_207 ?_
      rw [nI_1]
      refine gm_lald hM dX11_hook_208 rfl ((vp_in_nI (show i + 1 < 13 by omega) (by decide) : vp_in (nI (i + 1)) 13)) ?_
      refine g_tol (mk (i + 1)) (by rw [hci, ← e9]; rfl) ?_
      refine g_lstore (ls' := [_, _, _, _, _, _, _, _, _]) dX11_hook_209 (by decide) rfl rfl ?_
      refine g_aload_n (i := 0) dX11_hook_211 rfl rfl ?_
      refine gm_get hM (k := 17) dX11_hook_212 flX11_50 rfl ?_
      refine g_bipush (v := 100) dX11_hook_215 (by decide) ?_
      refine g_iload_n (i := 1) dX11_hook_217 rfl rfl ?_
      refine g_imul dX11_hook_218 ?_
      refine g_iload dX11_hook_219 rfl ?_
      refine g_iadd dX11_hook_221 ?_
      rw [ix100]
      refine g_iload_n (i := 2) dX11_hook_222 rfl rfl ?_
      refine g_iconst (v := 2) dX11_hook_223 (by decide) ?_
      refine g_icmp_ne (tgt := 234) dX11_hook_224 (by decide) (fun zc224 => ?_) (fun zc224 => ?_)
      · refine g_iload_n (i := 2) dX11_hook_234 rfl rfl ?_
        refine g_iconst (v := 3) dX11_hook_235 (by decide) ?_
        refine g_icmp_ne (tgt := 244) dX11_hook_236 (by decide) (fun zc236 => ?_) (fun zc236 => ?_)
        · refine g_iload_n (i := 2) dX11_hook_244 rfl rfl ?_
          refine g_iconst (v := 4) dX11_hook_245 (by decide) ?_
          refine g_icmp_ne (tgt := 257) dX11_hook_246 (by decide) (fun zc246 => ?_) (fun zc246 => ?_)
          · refine g_lload dX11_hook_257 rfl ?_
            refine g_l2i dX11_hook_259 ?_
            refine g_i2s dX11_hook_260 ?_
            refine g_i2l dX11_hook_261 ?_
            refine gm_last hM dX11_hook_262 rfl ((vp_in_nI (show 100 * h + i < 5800 by omega) (by decide) : vp_in (nI (100 * h + i)) 5800)) (fun σ hM => ?_)
            refine g_iinc (v := _ + 1) (ls' := [_, _, _, _, _, _, _, _, _]) dX11_hook_263 rfl rfl (by decide) rfl rfl ?_
            refine g_goto (tgt := 193) dX11_hook_266 (by decide) ?_
            rw [uJ_uJ, hcq] at hM
            rw [nI_1]
            first
            | exact tail _ _ (by unfold aNar; rw [if_pos zc224]) hM _
            | exact tail _ _ (by unfold aNar; rw [if_neg zc224, if_pos zc236]) hM _
            | exact tail _ _ (by unfold aNar; rw [if_neg zc224, if_neg zc236, if_pos zc246]) hM _
            | exact tail _ _ (by unfold aNar; rw [if_neg zc224, if_neg zc236, if_neg zc246]) hM _
          · refine g_lload dX11_hook_249 rfl ?_
            refine g_l2i dX11_hook_251 ?_
            refine g_i2b dX11_hook_252 ?_
            refine g_i2l dX11_hook_253 ?_
            refine g_goto (tgt := 262) dX11_hook_254 (by decide) ?_
            refine gm_last hM dX11_hook_262 rfl ((vp_in_nI (show 100 * h + i < 5800 by omega) (by decide) : vp_in (nI (100 * h + i)) 5800)) (fun σ hM => ?_)
            refine g_iinc (v := _ + 1) (ls' := [_, _, _, _, _, _, _, _, _]) dX11_hook_263 rfl rfl (by decide) rfl rfl ?_
            refine g_goto (tgt := 193) dX11_hook_266 (by decide) ?_
            rw [uJ_uJ, hcq] at hM
            rw [nI_1]
            first
            | exact tail _ _ (by unfold aNar; rw [if_pos zc224]) hM _
            | exact tail _ _ (by unfold aNar; rw [if_neg zc224, if_pos zc236]) hM _
            | exact tail _ _ (by unfold aNar; rw [if_neg zc224, if_neg zc236, if_pos zc246]) hM _
            | exact tail _ _ (by unfold aNar; rw [if_neg zc224, if_neg zc236, if_neg zc246]) hM _
        · refine g_lload dX11_hook_239 rfl ?_
          refine g_goto (tgt := 262) dX11_hook_241 (by decide) ?_
          refine gm_last hM dX11_hook_262 rfl ((vp_in_nI (show 100 * h + i < 5800 by omega) (by decide) : vp_in (nI (100 * h + i)) 5800)) (fun σ hM => ?_)
          refine g_iinc (v := _ + 1) (ls' := [_, _, _, _, _, _, _, _, _]) dX11_hook_263 rfl rfl (by decide) rfl rfl ?_
          refine g_goto (tgt := 193) dX11_hook_266 (by decide) ?_
          rw [uJ_uJ, hcq] at hM
          rw [nI_1]
          first
          | exact tail _ _ (by unfold aNar; rw [if_pos zc224]) hM _
          | exact tail _ _ (by unfold aNar; rw [if_neg zc224, if_pos zc236]) hM _
          | exact tail _ _ (by unfold aNar; rw [if_neg zc224, if_neg zc236, if_pos zc246]) hM _
          | exact tail _ _ (by unfold aNar; rw [if_neg zc224, if_neg zc236, if_neg zc246]) hM _
      · refine g_lload dX11_hook_227 rfl ?_
        refine g_l2i dX11_hook_229 ?_
        refine g_i2l dX11_hook_230 ?_
        refine g_goto (tgt := 262) dX11_hook_231 (by decide) ?_
        refine gm_last hM dX11_hook_262 rfl ((vp_in_nI (show 100 * h + i < 5800 by omega) (by decide) : vp_in (nI (100 * h + i)) 5800)) (fun σ hM => ?_)
        refine g_iinc (v := _ + 1) (ls' := [_, _, _, _, _, _, _, _, _]) dX11_hook_263 rfl rfl (by decide) rfl rfl ?_
        refine g_goto (tgt := 193) dX11_hook_266 (by decide) ?_
        rw [uJ_uJ, hcq] at hM
        rw [nI_1]
        first
        | exact tail _ _ (by unfold aNar; rw [if_pos zc224]) hM _
        | exact tail _ _ (by unfold aNar; rw [if_neg zc224, if_pos zc236]) hM _
        | exact tail _ _ (by unfold aNar; rw [if_neg zc224, if_neg zc236, if_pos zc246]) hM _
        | exact tail _ _ (by unfold aNar; rw [if_neg zc224, if_neg zc236, if_neg zc246]) hM _
end CMhook
