/-! the class: undo -/
theorem RCx.prS {σ : gH} {ow : Nat → Nat} {x : Nat} {A : aA} {ad hk : Nat → Nat} {cs : List cA} {ff : Nat → Option Nat} (hR : RCx σ ow x A ad hk cs ff) : ∃ pf, σ (ad 2) = some (gAi 13 pf) ∧ ∀ j v, RCx (su σ (ad 2) (gAi 13 (upd pf j v))) ow x (A.1, va_up A.2.1 j v, A.2.2) ad hk cs ff := by
  obtain ⟨h1, h2, ⟨pf, p1, p2⟩, h4, h5, h6, ⟨h7, h8, h9⟩, h10, h11, h12, h13⟩ := hR
  refine ⟨pf, p1.1, fun j v => ?_⟩
  have hs : Sm (fun m => m = 2) σ ow (su σ (ad 2) (gAi 13 (upd pf j v))) ow := Sm.stp p1.2 _
  refine ⟨h1.mono hs (by decide), h2.mono hs (by decide) (fun m _ _ => by omega), ⟨_, p1.up _, fun q hq => ?_⟩, h4.mono hs (by decide), h5.mono hs (by decide) (by decide) (fun m _ => by omega), h6.mono hs (by decide) (by omega), ⟨h7.mono hs (by decide) (by decide) (by decide), h8, h9.mono hs (by decide) (fun m _ => by omega)⟩, h10, h11.mono hs (fun m _ _ _ => by omega), h12.mono hs (by decide), h13⟩
  show upd pf j v q = va_up A.2.1 j v q
  by_cases e : q = j
  · subst e; rw [pk_us, va_up_self]
  · rw [pk_un e, va_up_ne _ _ e]; exact p2 q hq
theorem RCx.tlS {σ : gH} {ow : Nat → Nat} {x : Nat} {A : aA} {ad hk : Nat → Nat} {cs : List cA} {ff : Nat → Option Nat} (hR : RCx σ ow x A ad hk cs ff) : ∃ tf, σ (ad 3) = some (gAl 4 tf) ∧ ∀ j v, RCx (su σ (ad 3) (gAl 4 (vp_updL tf j v))) ow x (A.1, A.2.1, va_up A.2.2.1 j v, A.2.2.2) ad hk cs ff := by
  obtain ⟨h1, h2, h3, ⟨tf, p1, p2⟩, h5, h6, ⟨h7, h8, h9⟩, h10, h11, h12, h13⟩ := hR
  refine ⟨tf, p1.1, fun j v => ?_⟩
  have hs : Sm (fun m => m = 3) σ ow (su σ (ad 3) (gAl 4 (vp_updL tf j v))) ow := Sm.stp p1.2 _
  refine ⟨h1.mono hs (by decide), h2.mono hs (by decide) (fun m _ _ => by omega), h3.mono hs (by decide), ⟨_, p1.up _, fun q hq => ?_⟩, h5.mono hs (by decide) (by decide) (fun m _ => by omega), h6.mono hs (by decide) (by omega), ⟨h7.mono hs (by decide) (by decide) (by decide), h8, h9.mono hs (by decide) (fun m _ => by omega)⟩, h10, h11.mono hs (fun m _ _ _ => by omega), h12.mono hs (by decide), h13⟩
  show vp_updL tf j v q = va_up A.2.2.1 j v q
  by_cases e : q = j
  · subst e; rw [pk_uLs, va_up_self]
  · rw [pk_uLn e, va_up_ne _ _ e]; exact p2 q hq
/-- behind takeLatest: the last act is out of the row -/
def PTk (σ : gH) (ow : Nat → Nat) (x : Nat) (A : aA) (ad hk : Nat → Nat) (cs : List cA) (c : cA) (ff : Nat → Option Nat) : Prop :=
  Pt σ ow x 0 (xO ad A.1.length A.2.2.2.2.2) ∧ FTab σ ow (ad 1) A.1 ff ∧ PrT σ ow (ad 2) A.2.1 ∧ TlT σ ow (ad 3) A.2.2.1 ∧ HkC σ ow (ad 4) hk A.2.2.2.1 ∧ HoC σ ow (ad 5) (0, []) ∧ (HiC σ ow (ad 6) cs ∧ A.2.2.2.2.1 = cs.map Prod.fst ∧ AcH σ ow (cs ++ [c])) ∧ (ALs (ad 5) hk (cs ++ [c]) ∧ ckL hk (c :: cs.reverse)) ∧ SeC σ ow (ad 8) ∧ MaT σ ow (ad 9) ∧ A.2.2.2.2.2 ≤ 12
theorem PTk.of {σ σ' : gH} {ow : Nat → Nat} {x : Nat} {A : aA} {ad hk : Nat → Nat} {cs : List cA} {c : cA} {ff : Nat → Option Nat} (q : RCx σ ow x A ad hk (cs ++ [c]) ff) (hs : Sm hx67 σ ow σ' ow) (hi : HiC σ' ow (ad 6) cs) : PTk σ' ow x (aSetHs A (cs.map Prod.fst)) ad hk cs c ff := by
  obtain ⟨h1, h2, h3, h4, h5, h6, ⟨h7, h8, h9⟩, ⟨h10, h10b⟩, h11, h12, h13⟩ := q
  rw [List.reverse_append] at h10b
  exact ⟨h1.mono hs (by decide), h2.mono hs (by decide) (fun m _ _ => by omega), h3.mono hs (by decide), h4.mono hs (by decide), h5.mono hs (by decide) (by decide) (fun m _ => by omega), h6.mono hs (by decide) (by omega), ⟨hi, rfl, h9.mono hs (by decide) (fun m _ => by omega)⟩, ⟨h10, h10b⟩, h11.mono hs (fun m _ _ _ => by omega), h12.mono hs (by decide), h13⟩
theorem PTk.rcx {σ : gH} {ow : Nat → Nat} {x : Nat} {A : aA} {ad hk : Nat → Nat} {cs : List cA} {c : cA} {ff : Nat → Option Nat} (q : PTk σ ow x A ad hk cs c ff) (h5 : ¬ c.1.1 = 5) : RCx σ ow x A ad hk cs ff := by
  obtain ⟨h1, h2, h3, h4, h5', h6, ⟨h7, h8, h9⟩, ⟨h10, h10b⟩, h11, h12, h13⟩ := q
  exact ⟨h1, h2, h3, h4, h5', h6, ⟨h7, h8, h9.sub (fun d hd => List.mem_append_left _ hd)⟩, ⟨h10.sub (List.sublist_append_left _ _), (h10b.2 h5).2⟩, h11, h12, h13⟩
theorem PTk.h5 {σ : gH} {ow : Nat → Nat} {x : Nat} {A : aA} {ad hk : Nat → Nat} {cs : List cA} {c : cA} {ff : Nat → Option Nat} (q : PTk σ ow x A ad hk cs c ff) (h5 : c.1.1 = 5) {b : Nat} (hb : c.2 = some b) {hf : Nat → Option Nat} (hh : σ (ad 4) = some (gAq (.object RX5) 8 hf)) : RCx (su σ (ad 4) (gAq (.object RX5) 8 (va_up hf c.1.2.1 (some b)))) ow x (A.1, A.2.1, A.2.2.1, va_up A.2.2.2.1 c.1.2.1 c.1.2.2.2.2, A.2.2.2.2) ad (va_up hk c.1.2.1 b) cs ff := by
  obtain ⟨h1, h2, h3, h4, ⟨hf', p1, p2⟩, h6, ⟨h7, h8, h9⟩, ⟨h10, h10b⟩, h11, h12, h13⟩ := q
  have e := p1.1
  rw [hh] at e
  obtain rfl : hf = hf' := by
    injection e with e
    injection e with e
    injection e with _ e
    injection e with _ e
    injection e with e
    injection e with e
    injection e with e
    injection e with e
  have hcm : c ∈ cs ++ [c] := List.mem_append_right _ List.mem_cons_self
  obtain ⟨b', b1, b2⟩ := h9 c hcm h5
  obtain rfl : b = b' := Option.some.inj (hb.symm.trans b1)
  have hs : Sm (fun m => m = 4) σ ow (su σ (ad 4) (gAq (.object RX5) 8 (va_up hf c.1.2.1 (some b)))) ow := Sm.stp p1.2 _
  have hbn : ∀ h, h < 8 → hk h = b → b = ad 5 := fun h hh8 he => by
    rw [← he]
    exact h10.2.1 h hh8 c hcm h5 (by rw [hb, he])
  refine ⟨h1.mono hs (by decide), h2.mono hs (by decide) (fun m _ _ => by omega), h3.mono hs (by decide), h4.mono hs (by decide), ⟨_, p1.up _, fun h hh8 => ?_⟩, h6.mono hs (by decide) (by omega), ⟨h7.mono hs (by decide) (by decide) (by decide), h8, (h9.sub (fun d hd => List.mem_append_left _ hd)).mono hs (by decide) (fun m _ => by omega)⟩, ⟨⟨fun h h' a1 a2 he => ?_, fun h hh8 d hd hd5 he => ?_, (h10.sub (List.sublist_append_left _ _)).2.2⟩, ?_⟩, h11.mono hs (fun m _ _ _ => by omega), h12.mono hs (by decide), h13⟩
  · show va_up hf c.1.2.1 (some b) h = some (va_up hk c.1.2.1 b h) ∧ HoC _ _ (va_up hk c.1.2.1 b h) (va_up A.2.2.2.1 c.1.2.1 c.1.2.2.2.2 h)
    by_cases e : h = c.1.2.1
    · rw [e, va_up_self, va_up_self, va_up_self]
      exact ⟨rfl, b2.mono hs (by decide) (by omega)⟩
    · rw [va_up_ne _ _ e, va_up_ne _ _ e, va_up_ne _ _ e]
      exact ⟨(p2 h hh8).1, (p2 h hh8).2.mono hs (by decide) (by omega)⟩
  · by_cases e1 : h = c.1.2.1
    · by_cases e2 : h' = c.1.2.1
      · exact Or.inl (by rw [e1, e2])
      · rw [e1, va_up_self, va_up_ne _ _ e2] at he
        right
        rw [e1, va_up_self]
        exact hbn h' a2 he.symm
    · by_cases e2 : h' = c.1.2.1
      · rw [e2, va_up_self, va_up_ne _ _ e1] at he
        right
        rw [va_up_ne _ _ e1, he]
        exact hbn h a1 he
      · rw [va_up_ne _ _ e1, va_up_ne _ _ e2] at he
        rw [va_up_ne _ _ e1]
        exact h10.1 h h' a1 a2 he
  · by_cases e1 : h = c.1.2.1
    · rw [e1, va_up_self] at he ⊢
      have := (List.pairwise_append.mp h10.2.2).2.2 d hd c List.mem_cons_self hd5 h5 (by rw [he, hb])
      rw [he] at this
      exact Option.some.inj this
    · rw [va_up_ne _ _ e1] at he ⊢
      exact h10.2.1 h hh8 d (List.mem_append_left _ hd) hd5 he
  · obtain ⟨b', b1', b3⟩ := h10b.1 h5
    obtain rfl : b = b' := Option.some.inj (hb.symm.trans b1')
    exact b3
theorem aUndo_acts (A : aA) (c : aAc) : (aUndo A c).2.2.2.2.1 = A.2.2.2.2.1 := by
  unfold aUndo
  split
  · rfl
  split
  · split <;> rfl
  split
  · rfl
  split
  · rfl
  split
  · rfl
  · rfl
section CUndo0
variable {l : Launch} {σ : gH}
theorem c_X10_removeStep {b : Nat} {w0 : Int32} {n : Nat} (hn : n < 12) {va vb vc : Value} (h0 : σ b = some (gO 2 [.int w0, .int (nI (n + 1)), va, vb, vc])) : Ct l mX10_removeStep 2 0 0 [.ref b] σ (pV fun σ' => σ' = su σ b (gO 2 [.int w0, .int (nI n), va, vb, vc])) := by
  refine Ct_of moX10_removeStep [some (.ref b)] rfl (Nat.le_of_ble_eq_true rfl) ?_
  refine g_aload_n (i := 0) dX10_removeStep_0 rfl rfl ?_
  refine g_ifnull dX10_removeStep_1 ?_
  refine g_aload_n (i := 0) dX10_removeStep_4 rfl rfl ?_
  refine g_callVv (My := mX3_removeLast) [] dX10_removeStep_5 lkX10_284 mvX3_removeLast rfl (h0) rfl (c_X3_removeLast hn h0) (by decide) (by decide) (by decide) rfl (Nat.le_of_ble_eq_true rfl) (fun σ zh5 => ?_)
  rw [zh5]
  refine g_vret dX10_removeStep_8 rfl ?_
  exact ⟨rfl, rfl⟩
theorem c_X10_restoreCell {b c n p : Nat} {k sk : Int32} {sy : Int64} {f : Nat → Int64} (h0 : σ b = some (gO 4 [.int k, .int sk, .long sy, .ref c])) (hc : σ c = some (gAl n f)) (hn : n ≤ 12) (hp : p < n) (v : Int64) : Ct l mX10_restoreCell 2 0 0 [.ref b, .int (nI p), .long v] σ (pV fun σ' => σ' = su σ c (gAl n (vp_updL f p v))) := by
  refine Ct_of moX10_restoreCell [some (.ref b), some (.int (nI p)), some (.long v), none] rfl (Nat.le_of_ble_eq_true rfl) ?_
  refine g_aload_n (i := 0) dX10_restoreCell_0 rfl rfl ?_
  refine g_ifnull dX10_restoreCell_1 ?_
  refine g_aload_n (i := 0) dX10_restoreCell_4 rfl rfl ?_
  refine g_iload_n (i := 1) dX10_restoreCell_5 rfl rfl ?_
  refine g_callVi (My := mX5_hasPlace) [_] dX10_restoreCell_6 lkX10_245 mvX5_hasPlace rfl (by first | exact h0 | exact hc) rfl (c_X5_hasPlace h0 hc _) (by decide) (by decide) (by decide) rfl (Nat.le_of_ble_eq_true rfl) (fun zr6 σ zh6 => ?_)
  obtain ⟨ze6, zf6⟩ := zh6
  rw [ze6, zf6]
  refine g_if_eq (tgt := 19) dX10_restoreCell_9 (by decide) (fun zc9 => ?_) (fun zc9 => ?_)
  · exact absurd ⟨nI_pos (by omega), nI_lt hp (by omega)⟩ (bI_eq0.mp zc9)
  · refine g_aload_n (i := 0) dX10_restoreCell_12 rfl rfl ?_
    refine g_getf dX10_restoreCell_13 flX10_287 (by first | exact h0 | exact hc) rfl ?_
    refine g_iload_n (i := 1) dX10_restoreCell_16 rfl rfl ?_
    refine g_lload_n (i := 2) dX10_restoreCell_17 rfl rfl ?_
    refine g_last dX10_restoreCell_18 (by first | exact h0 | exact hc) ((vp_in_nI hp (by omega) : vp_in (nI p) n)) ?_
    refine g_vret dX10_restoreCell_19 rfl ?_
    exact ⟨rfl, by rw [nI_clamp (by omega)]⟩
end CUndo0
section CUndo
variable {l : Launch} {σ : gH} {ow : Nat → Nat} {x : Nat} {A : aA} {ad hk : Nat → Nat} {cs : List cA} {c : cA} {ff : Nat → Option Nat} {q : Nat}
def tbP (x : Nat) (R : aA) : Option Value → gH → Prop := pV fun σ' => RC σ' x R
theorem tb_1 (hP : PTk σ ow x A ad hk cs c ff) (hq : AcC σ ow q c) (h1 : c.1.1 = 1) (hl : c.1.2.1 ≤ A.1.length) : G l mX10_takeBack 3 0 0 (tbP x (aUndo A c.1)) σ 40 [some (.ref x), some (.ref q)] [] := by
  have hR := hP.rcx (by omega)
  refine g_aload_n (i := 0) dX10_takeBack_40 rfl rfl ?_
  refine g_aload_n (i := 1) dX10_takeBack_41 rfl rfl ?_
  refine g_getf dX10_takeBack_42 flX10_265 (hq.1) rfl ?_
  refine g_putf (fs' := [_, _, _, _, _, _, _, _, _, _]) dX10_takeBack_45 flX10_68 fp8_1 (hR.1.1) rfl rfl (Nat.le_of_ble_eq_true rfl) rfl ?_
  refine g_goto (tgt := 129) dX10_takeBack_48 (by decide) ?_
  refine g_vret dX10_takeBack_129 rfl ?_
  refine ⟨rfl, ?_⟩
  unfold aUndo
  rw [if_pos h1]
  exact (hR.shrink hl).rc
theorem tb_2 (hP : PTk σ ow x A ad hk cs c ff) (hq : AcC σ ow q c) (h2 : c.1.1 = 2) {g : aF} (hg : A.1[c.1.2.1]? = some g) (hne : g.2 ≠ []) : G l mX10_takeBack 3 0 0 (tbP x (aUndo A c.1)) σ 51 [some (.ref x), some (.ref q)] [] := by
  have hR := hP.rcx (by omega)
  have hj := (List.getElem?_eq_some_iff.mp hg).1
  have h60 := hR.2.1.2.1
  obtain ⟨b, ka, xa, ya, kf, xf, yf, hb, p1, p2, p3, p4, hst, h12⟩ := hR.form hg
  obtain ⟨n, hn⟩ : ∃ n, g.2.length = n + 1 := by
    cases hgl : g.2 with
    | nil => exact absurd hgl hne
    | cons a t => exact ⟨t.length, rfl⟩
  have hs : Sm (fun m => 100 + 4 * c.1.2.1 ≤ m ∧ m ≤ 103 + 4 * c.1.2.1) σ ow (su σ b (gO 2 [.int g.1, .int (nI n), .ref ka, .ref xa, .ref ya])) ow := Sm.stp (b := b) (by rw [p1.2]; omega) _
  have hfo : foE (su σ b (gO 2 [.int g.1, .int (nI n), .ref ka, .ref xa, .ref ya])) ow (A.1.set c.1.2.1 (g.1, g.2.dropLast)) c.1.2.1 b := by
    refine ⟨g.1, nI n, kf, xf, yf, ⟨ka, xa, ya, p1.up _, ⟨(su_ne _ _ (p2.ne p1 (by omega))).trans p2.1, by rw [p2.2]; omega⟩, ⟨(su_ne _ _ (p3.ne p1 (by omega))).trans p3.1, by rw [p3.2]; omega⟩, ⟨(su_ne _ _ (p4.ne p1 (by omega))).trans p4.1, by rw [p4.2]; omega⟩⟩, fun g' hg' => ?_⟩
    rw [List.getElem?_set_self hj] at hg'
    cases hg'
    refine ⟨rfl, by rw [List.length_dropLast, hn]; rfl, by rw [List.length_dropLast]; omega, fun k s hsk => hst k s ?_⟩
    have hk' := (List.getElem?_eq_some_iff.mp hsk).1
    rw [List.length_dropLast] at hk'
    rw [List.dropLast_eq_take, List.getElem?_take_of_lt (by omega)] at hsk
    exact hsk
  have hfin : RC (su σ b (gO 2 [.int g.1, .int (nI n), .ref ka, .ref xa, .ref ya])) x (aUndo A c.1) := by
    unfold aUndo
    rw [if_neg (by omega), if_pos h2, hg]
    exact (hR.fset (by omega) hb hs (by rw [List.length_set]) (fun f hf => List.getElem?_set_ne (Ne.symm hf)) hfo).rc
  have p1' := p1.1
  rw [hn] at p1'
  refine g_aload_n (i := 0) dX10_takeBack_51 rfl rfl ?_
  refine g_aload_n (i := 1) dX10_takeBack_52 rfl rfl ?_
  refine g_getf dX10_takeBack_53 flX10_265 (hq.1) rfl ?_
  refine g_callVq (My := mX10_formAt) [_] dX10_takeBack_56 lkX10_76 mvX10_formAt rfl (hR.1.1) rfl (c_X10_formAt1 hR hj hb) (by decide) (by decide) (by decide) rfl (Nat.le_of_ble_eq_true rfl) (fun zr56 σ zh56 => ?_)
  obtain ⟨ze56, zf56⟩ := zh56
  rw [ze56, zf56]
  refine g_tor b rfl ?_
  refine g_callSv (My := mX10_removeStep) [_] dX10_takeBack_59 lkX10_268 mvX10_removeStep rfl (c_X10_removeStep (show n < 12 by omega) p1') (by decide) (by decide) (by decide) rfl (Nat.le_of_ble_eq_true rfl) (fun σ zh59 => ?_)
  rw [zh59]
  refine g_goto (tgt := 129) dX10_takeBack_62 (by decide) ?_
  refine g_vret dX10_takeBack_129 rfl ?_
  exact ⟨rfl, hfin⟩
theorem tb_3 (hP : PTk σ ow x A ad hk cs c ff) (hq : AcC σ ow q c) (h3 : c.1.1 = 3) (hl : c.1.2.1 < 13) : G l mX10_takeBack 3 0 0 (tbP x (aUndo A c.1)) σ 65 [some (.ref x), some (.ref q)] [] := by
  have hR := hP.rcx (by omega)
  obtain ⟨pf, p1, p2⟩ := hR.prS
  refine g_aload_n (i := 0) dX10_takeBack_65 rfl rfl ?_
  refine g_getf dX10_takeBack_66 flX10_15 (by first | exact hq.1 | exact hR.1.1 | exact p1) rfl ?_
  refine g_aload_n (i := 1) dX10_takeBack_69 rfl rfl ?_
  refine g_getf dX10_takeBack_70 flX10_265 (by first | exact hq.1 | exact hR.1.1 | exact p1) rfl ?_
  refine g_aload_n (i := 1) dX10_takeBack_73 rfl rfl ?_
  refine g_getf dX10_takeBack_74 flX10_271 (by first | exact hq.1 | exact hR.1.1 | exact p1) rfl ?_
  refine g_l2i dX10_takeBack_77 ?_
  refine g_iast dX10_takeBack_78 (by first | exact hq.1 | exact hR.1.1 | exact p1) ((vp_in_nI hl (by decide) : vp_in (nI c.1.2.1) 13)) ?_
  refine g_goto (tgt := 129) dX10_takeBack_79 (by decide) ?_
  refine g_vret dX10_takeBack_129 rfl ?_
  refine ⟨rfl, ?_⟩
  unfold aUndo
  rw [if_neg (by omega), if_neg (by omega), if_pos h3, nI_clamp (by omega)]
  exact (p2 _ _).rc
theorem tb_4 (hP : PTk σ ow x A ad hk cs c ff) (hq : AcC σ ow q c) (h4 : c.1.1 = 4) (hl : c.1.2.1 < 4) : G l mX10_takeBack 3 0 0 (tbP x (aUndo A c.1)) σ 82 [some (.ref x), some (.ref q)] [] := by
  have hR := hP.rcx (by omega)
  obtain ⟨pf, p1, p2⟩ := hR.tlS
  refine g_aload_n (i := 0) dX10_takeBack_82 rfl rfl ?_
  refine g_getf dX10_takeBack_83 flX10_19 (by first | exact hq.1 | exact hR.1.1 | exact p1) rfl ?_
  refine g_aload_n (i := 1) dX10_takeBack_86 rfl rfl ?_
  refine g_getf dX10_takeBack_87 flX10_265 (by first | exact hq.1 | exact hR.1.1 | exact p1) rfl ?_
  refine g_aload_n (i := 1) dX10_takeBack_90 rfl rfl ?_
  refine g_getf dX10_takeBack_91 flX10_271 (by first | exact hq.1 | exact hR.1.1 | exact p1) rfl ?_
  refine g_last dX10_takeBack_94 (by first | exact hq.1 | exact hR.1.1 | exact p1) ((vp_in_nI hl (by decide) : vp_in (nI c.1.2.1) 4)) ?_
  refine g_goto (tgt := 129) dX10_takeBack_95 (by decide) ?_
  refine g_vret dX10_takeBack_129 rfl ?_
  refine ⟨rfl, ?_⟩
  unfold aUndo
  rw [if_neg (by omega), if_neg (by omega), if_neg (by omega), if_pos h4, nI_clamp (by omega)]
  exact (p2 _ _).rc
theorem tb_5 (hP : PTk σ ow x A ad hk cs c ff) (hq : AcC σ ow q c) (h5 : c.1.1 = 5) (hl : c.1.2.1 < 8) : G l mX10_takeBack 3 0 0 (tbP x (aUndo A c.1)) σ 98 [some (.ref x), some (.ref q)] [] := by
  obtain ⟨b, b1, sk, sy, cc, n, f, r1, -⟩ := hP.2.2.2.2.2.2.1.2.2 c (List.mem_append_right _ List.mem_cons_self) h5
  obtain ⟨hf, p1, p2⟩ := hP.2.2.2.2.1
  have hq' := hq.1
  rw [b1] at hq'
  refine g_aload_n (i := 0) dX10_takeBack_98 rfl rfl ?_
  refine g_getf dX10_takeBack_99 flX10_25 (by first | exact hq' | exact hP.1.1 | exact p1.1) rfl ?_
  refine g_aload_n (i := 1) dX10_takeBack_102 rfl rfl ?_
  refine g_getf dX10_takeBack_103 flX10_265 (by first | exact hq' | exact hP.1.1 | exact p1.1) rfl ?_
  refine g_aload_n (i := 1) dX10_takeBack_106 rfl rfl ?_
  refine g_getf dX10_takeBack_107 flX10_274 (by first | exact hq' | exact hP.1.1 | exact p1.1) rfl ?_
  refine g_aast dX10_takeBack_110 (by first | exact hq' | exact hP.1.1 | exact p1.1) (by decide) (r1.1) rfl ((vp_in_nI hl (by decide) : vp_in (nI c.1.2.1) 8)) ?_
  refine g_goto (tgt := 129) dX10_takeBack_111 (by decide) ?_
  refine g_vret dX10_takeBack_129 rfl ?_
  refine ⟨rfl, ?_⟩
  unfold aUndo
  rw [if_neg (by omega), if_neg (by omega), if_neg (by omega), if_neg (by omega), if_pos h5, nI_clamp (by omega)]
  exact (hP.h5 h5 b1 p1.1).rc
theorem tb_6 (hP : PTk σ ow x A ad hk cs c ff) (hq : AcC σ ow q c) (h6 : c.1.1 = 6) (hw : c.1.2.1 < 8) (hl : c.1.2.2.1 < (A.2.2.2.1 c.1.2.1).2.length) (h1 : ¬ (A.2.2.2.1 c.1.2.1).1 = 1) : G l mX10_takeBack 3 0 0 (tbP x (aUndo A c.1)) σ 114 [some (.ref x), some (.ref q)] [] := by
  have hR := hP.rcx (by omega)
  have hc2 : c.2 = some (hk c.1.2.1) := (hP.2.2.2.2.2.2.2.1.2.2 (by omega)).1 h6
  obtain ⟨sk, sy, cc, f, r1, r2, r3, r4, r5⟩ := hR.cell hw hl h1
  have hq' := hq.1
  rw [hc2] at hq'
  refine g_aload_n (i := 1) dX10_takeBack_114 rfl rfl ?_
  refine g_getf dX10_takeBack_115 flX10_274 (hq') rfl ?_
  refine g_aload_n (i := 1) dX10_takeBack_118 rfl rfl ?_
  refine g_getf dX10_takeBack_119 flX10_277 (hq') rfl ?_
  refine g_aload_n (i := 1) dX10_takeBack_122 rfl rfl ?_
  refine g_getf dX10_takeBack_123 flX10_271 (hq') rfl ?_
  refine g_callSv (My := mX10_restoreCell) [_, _, _] dX10_takeBack_126 lkX10_280 mvX10_restoreCell rfl (c_X10_restoreCell r1 r2 r3 hl _) (by decide) (by decide) (by decide) rfl (Nat.le_of_ble_eq_true rfl) (fun σ zh126 => ?_)
  rw [zh126]
  refine g_vret dX10_takeBack_129 rfl ?_
  refine ⟨rfl, ?_⟩
  unfold aUndo
  rw [if_neg (by omega), if_neg (by omega), if_neg (by omega), if_neg (by omega), if_neg (by omega)]
  exact (r5 _).rc
theorem c_X10_takeBack (hP : PTk σ ow x A ad hk cs c ff) (hq : AcC σ ow q c) (hok : okAct A c.1) (h61 : c.1.1 = 6 → ¬ (A.2.2.2.1 c.1.2.1).1 = 1) : Ct l mX10_takeBack 3 0 0 [.ref x, .ref q] σ (pV fun σ' => RC σ' x (aUndo A c.1)) := by
  refine Ct_of moX10_takeBack [some (.ref x), some (.ref q)] rfl (Nat.le_of_ble_eq_true rfl) ?_
  refine g_aload_n (i := 1) dX10_takeBack_0 rfl rfl ?_
  refine g_getf dX10_takeBack_1 flX10_264 (hq.1) rfl ?_
  rcases hok with ⟨k1, k2⟩ | ⟨k1, g, k2, k3⟩ | ⟨k1, k2⟩ | ⟨k1, k2⟩ | ⟨k1, k2⟩ | ⟨k1, k2, k3⟩
  · exact g_tbIn (c := 0) (tgt := 40) (by rw [k1]; rfl) dX10_takeBack_4 (by decide) (by decide) rfl (by decide) (tb_1 hP hq k1 k2)
  · exact g_tbIn (c := 1) (tgt := 51) (by rw [k1]; rfl) dX10_takeBack_4 (by decide) (by decide) rfl (by decide) (tb_2 hP hq k1 k2 k3)
  · exact g_tbIn (c := 2) (tgt := 65) (by rw [k1]; rfl) dX10_takeBack_4 (by decide) (by decide) rfl (by decide) (tb_3 hP hq k1 k2)
  · exact g_tbIn (c := 3) (tgt := 82) (by rw [k1]; rfl) dX10_takeBack_4 (by decide) (by decide) rfl (by decide) (tb_4 hP hq k1 k2)
  · exact g_tbIn (c := 4) (tgt := 98) (by rw [k1]; rfl) dX10_takeBack_4 (by decide) (by decide) rfl (by decide) (tb_5 hP hq k1 k2)
  · exact g_tbOut (tgt := 114) dX10_takeBack_4 (by rw [k1]; decide) (by decide) (tb_6 hP hq k1 k2 k3 (h61 k1))
theorem c_X10_undo {τ : gH} (hR : RC τ x A) (hok : ∀ c, A.2.2.2.2.1.getLast? = some c → okAct A c ∧ (c.1 = 6 → ¬ (A.2.2.2.1 c.2.1).1 = 1)) : Ct l mX10_undo 4 0 0 [.ref x] τ (pI (cP x (sUndo A))) := by
  obtain ⟨ow, ad, hk, cs, ff, hR⟩ := hR
  have hacts := hR.2.2.2.2.2.2.1.2.1
  have hlen : cs.length ≤ 50 := by
    obtain ⟨aa, af, -, -, h3, -⟩ := hR.2.2.2.2.2.2.1.1
    exact h3
  refine Ct_of moX10_undo [some (.ref x), none] rfl (Nat.le_of_ble_eq_true rfl) ?_
  rcases List.eq_nil_or_concat cs with hc | ⟨cs', c, hc⟩
  · subst hc
    have hv : sUndo A = (-1, A) := by
      unfold sUndo
      rw [hacts]
      rfl
    rw [hv]
    refine g_aload_n (i := 0) dX10_undo_0 rfl rfl ?_
    refine g_getf dX10_undo_1 flX10_39 (by first | exact hR.1.1 | exact hR.hs.choose_spec) rfl ?_
    refine g_callVq (My := mX4_takeLatest) [] dX10_undo_4 lkX10_214 mvX4_takeLatest rfl (by first | exact hR.1.1 | exact hR.hs.choose_spec) rfl (c_X4_takeLatest hR.2.2.2.2.2.2.1.1) (by decide) (by decide) (by decide) rfl (Nat.le_of_ble_eq_true rfl) (fun zr4 σ zh4 => ?_)
    have zk : zr4 = none ∧ σ = τ := by
      rcases zh4 with ⟨-, zr, zs⟩ | ⟨cs', c, q, zz, -⟩
      · exact ⟨zr, zs⟩
      · exact absurd zz (by simp)
    rw [zk.1, zk.2]
    refine g_toN rfl ?_
    refine g_astore_nN (i := 1) (ls' := [_, _]) dX10_undo_7 rfl (by decide) rfl rfl ?_
    refine g_aload_nN (i := 1) dX10_undo_8 rfl rfl ?_
    refine g_ifnonnullN dX10_undo_9 ?_
    refine g_iconst (v := (-1)) dX10_undo_12 (by decide) ?_
    refine g_iret dX10_undo_13 rfl ?_
    exact ⟨_, rfl, rfl, hR.rc⟩
  · rw [List.concat_eq_append] at hc
    subst hc
    have hlast : A.2.2.2.2.1.getLast? = some c.1 := by rw [hacts, List.map_append]; simp
    have hdl : A.2.2.2.2.1.dropLast = cs'.map Prod.fst := by rw [hacts, List.map_append]; simp
    have hln : A.2.2.2.2.1.length - 1 = cs'.length := by rw [hacts]; simp
    have hv : sUndo A = (nI cs'.length, aUndo (aSetHs A (cs'.map Prod.fst)) c.1) := by
      unfold sUndo
      rw [hlast, hdl, hln]
    rw [hv]
    obtain ⟨ok1, ok2⟩ := hok c.1 hlast
    refine g_aload_n (i := 0) dX10_undo_0 rfl rfl ?_
    refine g_getf dX10_undo_1 flX10_39 (by first | exact hR.1.1 | exact hR.hs.choose_spec) rfl ?_
    refine g_callVq (My := mX4_takeLatest) [] dX10_undo_4 lkX10_214 mvX4_takeLatest rfl (by first | exact hR.1.1 | exact hR.hs.choose_spec) rfl (c_X4_takeLatest hR.2.2.2.2.2.2.1.1) (by decide) (by decide) (by decide) rfl (Nat.le_of_ble_eq_true rfl) (fun zr4 σ zh4 => ?_)
    rcases zh4 with ⟨zz, -⟩ | ⟨cs2, c2, q, zz, zr, hq, hs, hi⟩
    · exact absurd zz (by simp)
    obtain ⟨rfl, e2⟩ := List.append_inj' zz rfl
    obtain rfl : c = c2 := by simpa using e2
    rw [zr]
    refine g_tor q rfl ?_
    have hP := PTk.of hR hs hi
    refine g_astore_n (i := 1) (ls' := [_, _]) dX10_undo_7 rfl (by decide) rfl rfl ?_
    refine g_aload_n (i := 1) dX10_undo_8 rfl rfl ?_
    refine g_ifnonnull (tgt := 14) dX10_undo_9 (by decide) ?_
    refine g_aload_n (i := 0) dX10_undo_14 rfl rfl ?_
    refine g_aload_n (i := 1) dX10_undo_15 rfl rfl ?_
    refine g_callVv (My := mX10_takeBack) [_] dX10_undo_16 lkX10_218 mvX10_takeBack rfl (hP.1.1) rfl (c_X10_takeBack hP hq ok1 ok2) (by decide) (by decide) (by decide) rfl (Nat.le_of_ble_eq_true rfl) (fun σ zh16 => ?_)
    have hR2 := zh16
    obtain ⟨ow2, ad2, hk2, cs2, ff2, hR2⟩ := hR2
    have hl2 : cs2.length = cs'.length := by
      have e := hR2.2.2.2.2.2.2.1.2.1
      have e2 : (aUndo (aSetHs A (cs'.map Prod.fst)) c.1).2.2.2.2.1 = cs'.map Prod.fst := aUndo_acts _ _
      rw [e2] at e
      have := congrArg List.length e
      simpa using this.symm
    refine g_aload_n (i := 0) dX10_undo_19 rfl rfl ?_
    refine g_getf dX10_undo_20 flX10_39 (hR2.1.1) rfl ?_
    refine g_getf dX10_undo_23 flX10_211 (hR2.hs.choose_spec) rfl ?_
    refine g_iret dX10_undo_26 rfl ?_
    exact ⟨_, rfl, by rw [hl2], hR2.rc⟩
end CUndo
