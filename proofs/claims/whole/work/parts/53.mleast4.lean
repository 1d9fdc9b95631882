/-! the reference: least() -/
theorem mayB_tl {tl tl' : Nat → Int64} (h : ∀ p, p < 4 → tl p = tl' p) {k : Int32} {p : Nat} (hp : p < 4) : mayB tl k p ↔ mayB tl' k p := by
  have e : ∀ q, q < 4 → t8 tl q = t8 tl' q := fun q hq => by unfold t8; rw [h q hq]
  unfold mayB
  rw [e p hp]
  constructor
  · exact fun z => ⟨z.1, fun q hq => by rw [← e q (by omega)]; exact z.2 q hq⟩
  · exact fun z => ⟨z.1, fun q hq => by rw [e q (by omega)]; exact z.2 q hq⟩
theorem mkS_tl {tl tl' : Nat → Int64} (h : ∀ p, p < 4 → tl p = tl' p) {i x y : Nat} (hy : ¬ isOp (nI i) → y < 4) : mkS tl i x y = mkS tl' i x y := by
  unfold mkS yOfV
  by_cases ho : isOp (nI i)
  · rw [if_pos ho, if_pos ho]
  · rw [if_neg ho, if_neg ho]
    unfold t8
    rw [h y (hy ho)]
theorem fY_tl {tl tl' : Nat → Int64} (h : ∀ p, p < 4 → tl p = tl' p) (g : List aSt → bB → bB) (pre : List aSt) (i x : Nat) : ∀ (L : List Nat) (b : bB), (¬ isOp (nI i) → ∀ y ∈ L, y < 4) → fY g tl pre i x L b = fY g tl' pre i x L b := by
  intro L
  induction L with
  | nil => intro b _; rfl
  | cons y t ih =>
    intro b hL
    have hy : ¬ isOp (nI i) → y < 4 := fun ho => hL ho y List.mem_cons_self
    have hp : pY tl i y ↔ pY tl' i y := by
      by_cases ho : isOp (nI i)
      · exact ⟨fun _ => Or.inl ho, fun _ => Or.inl ho⟩
      · unfold pY
        rw [mayB_tl h (hy ho)]
    have ht := fun b => ih b (fun ho q hq => hL ho q (List.mem_cons_of_mem _ hq))
    by_cases hq : pY tl i y
    · rw [fY_t hq, fY_t (hp.mp hq), mkS_tl h hy, ht]
    · rw [fY_f hq, fY_f (fun z => hq (hp.mpr z)), ht]
theorem fX_tl {tl tl' : Nat → Int64} (h : ∀ p, p < 4 → tl p = tl' p) (g : List aSt → bB → bB) (pre : List aSt) (i : Nat) : ∀ (L : List Nat) (b : bB), fX g tl pre i L b = fX g tl' pre i L b := by
  intro L
  induction L with
  | nil => intro b; rfl
  | cons x t ih =>
    intro b
    show fX g tl pre i t (fY g tl pre i x _ b) = fX g tl' pre i t (fY g tl' pre i x _ b)
    rw [ih, fY_tl h g pre i x _ b (fun ho y hy => ?_)]
    have := (List.mem_range'_1.mp hy).2
    unfold ny at this
    rw [if_neg ho] at this
    omega
theorem fK_tl {tl tl' : Nat → Int64} (h : ∀ p, p < 4 → tl p = tl' p) (g : List aSt → bB → bB) (pre : List aSt) : ∀ (L : List Nat) (b : bB), fK g tl pre L b = fK g tl' pre L b := by
  intro L
  induction L with
  | nil => intro b; rfl
  | cons i t ih =>
    intro b
    show fK g tl pre t (fX g tl pre i _ b) = fK g tl' pre t (fX g tl' pre i _ b)
    rw [ih, fX_tl h]
theorem sc_tl {tl tl' : Nat → Int64} (h : ∀ p, p < 4 → tl p = tl' p) (Rt : List aSt → Prop) (pr : Nat → Nat) : ∀ (r : Nat), sc Rt pr tl r = sc Rt pr tl' r := by
  intro r
  induction r with
  | zero => rfl
  | succ r ih =>
    funext pre b
    show fK (sc Rt pr tl r) tl pre _ b = fK (sc Rt pr tl' r) tl' pre _ b
    rw [ih, fK_tl h]
theorem scAll_tl {tl tl' : Nat → Int64} (h : ∀ p, p < 4 → tl p = tl' p) (Rt : List aSt → Prop) (pr : Nat → Nat) : ∀ (n : Nat), scAll Rt pr tl n = scAll Rt pr tl' n := by
  intro n
  induction n with
  | zero => rfl
  | succ n ih =>
    show sc Rt pr tl (n + 1) [] (scAll Rt pr tl n) = sc Rt pr tl' (n + 1) [] (scAll Rt pr tl' n)
    rw [ih, sc_tl h]
/-- what a fold keeps -/
theorem fY_in {P : bB → Prop} {g : List aSt → bB → bB} {tl : Nat → Int64} {pre : List aSt} {i x : Nat} : ∀ (L : List Nat) (b : bB), (∀ y ∈ L, pY tl i y → ∀ b, P b → P (g (pre ++ [mkS tl i x y]) b)) → P b → P (fY g tl pre i x L b) := by
  intro L
  induction L with
  | nil => intro b _ hb; exact hb
  | cons y t ih =>
    intro b h hb
    have ht := fun b => ih b (fun q hq => h q (List.mem_cons_of_mem _ hq))
    by_cases hq : pY tl i y
    · rw [fY_t hq]; exact ht _ (h y List.mem_cons_self hq b hb)
    · rw [fY_f hq]; exact ht _ hb
theorem fX_in {P : bB → Prop} {g : List aSt → bB → bB} {tl : Nat → Int64} {pre : List aSt} {i : Nat} : ∀ (L : List Nat) (b : bB), (∀ x ∈ L, ∀ y, y < ny i pre.length → pY tl i y → ∀ b, P b → P (g (pre ++ [mkS tl i x y]) b)) → P b → P (fX g tl pre i L b) := by
  intro L
  induction L with
  | nil => intro b _ hb; exact hb
  | cons x t ih =>
    intro b h hb
    exact ih _ (fun q hq => h q (List.mem_cons_of_mem _ hq)) (fY_in _ b (fun y hy => h x List.mem_cons_self y (by have := (List.mem_range'_1.mp hy).2; omega)) hb)
theorem fK_in {P : bB → Prop} {g : List aSt → bB → bB} {tl : Nat → Int64} {pre : List aSt} : ∀ (L : List Nat) (b : bB), (∀ i ∈ L, ∀ x, x ≤ pre.length → ∀ y, y < ny i pre.length → pY tl i y → ∀ b, P b → P (g (pre ++ [mkS tl i x y]) b)) → P b → P (fK g tl pre L b) := by
  intro L
  induction L with
  | nil => intro b _ hb; exact hb
  | cons i t ih =>
    intro b h hb
    exact ih _ (fun q hq => h q (List.mem_cons_of_mem _ hq)) (fX_in _ b (fun x hx => h i List.mem_cons_self x (by have := (List.mem_range'_1.mp hx).2; omega)) hb)
/-- a step that may stand at place k -/
def gdS (tl : Nat → Int64) (k : Nat) (s : aSt) : Prop := ∃ c x y : Nat, c ≤ 12 ∧ x ≤ k ∧ y < ny c k ∧ pY tl c y ∧ s = mkS tl c x y
def gdF (tl : Nat → Int64) (f : List aSt) : Prop := ∀ (k : Nat) (s : aSt), f[k]? = some s → gdS tl k s
theorem gdF.app {tl : Nat → Int64} {f : List aSt} {s : aSt} (h : gdF tl f) (hs : gdS tl f.length s) : gdF tl (f ++ [s]) := by
  intro k t ht
  by_cases e : k < f.length
  · rw [List.getElem?_append_left e] at ht
    exact h k t ht
  · have hk : k = f.length := by
      have := (List.getElem?_eq_some_iff.mp ht).1
      simp at this
      omega
    subst hk
    simp at ht
    subst ht
    exact hs
def bbOk (tl : Nat → Int64) (b : bB) : Prop := b.1 ≤ 1000 ∧ (b.1 < 1000 → gdF tl b.2 ∧ 1 ≤ b.2.length ∧ b.2.length ≤ 3)
theorem sc_ok {Rt : List aSt → Prop} {pr : Nat → Nat} {tl : Nat → Int64} : ∀ (r : Nat) (pre : List aSt) (b : bB), gdF tl pre → 1 ≤ pre.length + r → pre.length + r ≤ 3 → bbOk tl b → bbOk tl (sc Rt pr tl r pre b) := by
  intro r
  induction r with
  | zero =>
    intro pre b hp h1 h3 hb
    show bbOk tl (acN Rt pr pre b)
    unfold acN
    split
    · rename_i hc
      exact ⟨Nat.le_of_lt (Nat.lt_of_lt_of_le hc.1 hb.1), fun _ => ⟨hp, h1, h3⟩⟩
    · exact hb
  | succ r ih =>
    intro pre b hp h1 h3 hb
    refine fK_in _ _ (fun i hi x hx y hy hpy b hb => ih _ _ (hp.app ⟨i, x, y, ?_, hx, hy, hpy, rfl⟩) ?_ ?_ hb) hb
    · have := (List.mem_range'_1.mp hi).2
      omega
    · simp; omega
    · simp; omega
theorem scAll_ok {Rt : List aSt → Prop} {pr : Nat → Nat} {tl : Nat → Int64} : ∀ (n : Nat), n ≤ 3 → bbOk tl (scAll Rt pr tl n) := by
  intro n
  induction n with
  | zero => intro _; exact ⟨Nat.le_refl _, fun h => absurd h (Nat.lt_irrefl _)⟩
  | succ n ih =>
    intro h
    exact sc_ok (n + 1) [] _ (fun k s hs => by simp at hs) (by simp) (by simp; omega) (ih (by omega))
theorem aY_gd {tl : Nat → Int64} {k : Nat} {s : aSt} (h : gdS tl k s) : aY s.1 s.2.2 8 = s.2.2 := by
  obtain ⟨c, x, y, -, -, -, -, rfl⟩ := h
  unfold aY
  by_cases ho : isOp (mkS tl c x y).1 ∨ isCt (mkS tl c x y).1
  · rw [if_pos ho]
  · rw [if_neg ho]
    exact mLow_id (N := 8) (Or.inl rfl) (mkS_y (fun z => ho (Or.inl z)))
def aLook (A : aA) : aA := (A.1, A.2.1, A.2.2.1, A.2.2.2.1, A.2.2.2.2.1, A.2.2.2.2.2 + 1)
def cnF (sg ws : Int32) (d : Int64) (v : Nat) : Prop := ¬ (ws = 5 ∧ ¬ mLow (aQR 8 sg ws (mLow d 8) (lN v)).2 8 = 0)
def dqF (sg ws : Int32) (d : Int64) (v : Nat) : Int64 := mAns 8 ws (aQR 8 sg ws (mLow d 8) (lN v))
noncomputable def lsB (A : aA) (sg ws : Int32) (d : Int64) (n : Nat) : bB := scAll (rtF (cnF sg ws d) (dqF sg ws d)) (fun i => (A.2.1 i).toNatClampNeg) A.2.2.1 n
noncomputable def sLeast (A : aA) (sg ws : Int32) (d : Int64) (most : Int32) : Int32 × aA := by
  classical
  exact if (¬ most < 1 ∧ most ≤ 3) ∧ mIsA 8 sg ws d then (if A.1.length = 60 ∨ A.2.2.2.2.2 = 12 then (-2, A) else (if (lsB A sg ws d most.toNatClampNeg).1 = 1000 then (-3, aLook A) else (nI A.1.length, aNote ((aLook A).1 ++ [(8, (lsB A sg ws d most.toNatClampNeg).2)], (aLook A).2) (1, A.1.length, 0, 0, (0, []))))) else (-1, A)
def prOk (A : aA) : Prop := ∀ i, i < 13 → ∃ p : Nat, 1 ≤ p ∧ p ≤ 50 ∧ A.2.1 i = nI p
def sL (S S' : mS) : Prop := (∀ k, k ∉ [25] → S'.1 k = S.1 k) ∧ (∀ k, k ∉ [1] → S'.2.1 k = S.2.1 k) ∧ (∀ k, k ∉ [29, 30, 31] → S'.2.2.1 k = S.2.2.1 k) ∧ S'.2.2.2 = S.2.2.2
theorem sL.uI {S S' : mS} (h : sL S S') {k : Nat} (hk : k ∈ [29, 30, 31]) (f : Nat → Int32) : sL S (uI S' k f) := ⟨h.1, h.2.1, fun j hj => by rw [← h.2.2.1 j hj]; exact va_up_ne _ _ (fun e => hj (e ▸ hk)), h.2.2.2⟩
theorem sL.sF {S S' S'' : mS} (h : sL S S') (e : sF S' S'' [25] [1]) : sL S S'' := ⟨fun k hk => (e.1 k hk).trans (h.1 k hk), fun k hk => (e.2.1 k hk).trans (h.2.1 k hk), fun k hk => by rw [e.2.2]; exact h.2.2.1 k hk, by rw [e.2.2]; exact h.2.2.2⟩
theorem RepM.sL {S S' : mS} {A : aA} (q : RepM S A) (h : sL S S') : RepM S' A := by
  refine q.of (fun k z => h.1 k ?_) (fun k z => h.2.2.1 k ?_) (fun k z => by rw [h.2.2.2])
  · simp only [List.mem_cons, List.not_mem_nil, or_false] at z ⊢
    omega
  · simp only [List.mem_cons, List.not_mem_nil, or_false] at z ⊢
    omega
def ldI (sg ws : Int32) (d : Int64) (S : mS) (v : Nat) : Prop := ∀ u, u < v → S.2.2.1 29 u = nI u ∧ S.2.2.1 30 u = (dqF sg ws d u).toInt32 ∧ S.2.2.1 31 u = bI (cnF sg ws d u)
theorem ldI_next {sg ws : Int32} {d : Int64} {S1 S2 : mS} {v : Nat} (h : ldI sg ws d S1 v) {z : Int32} (hz : z = bI (cnF sg ws d v)) (e29 : S2.2.2.1 29 = upd (S1.2.2.1 29) v (nI v)) (e30 : S2.2.2.1 30 = upd (S1.2.2.1 30) v (dqF sg ws d v).toInt32) (e31 : S2.2.2.1 31 = upd (S1.2.2.1 31) v z) : ldI sg ws d S2 (v + 1) := by
  intro u hu
  rw [e29, e30, e31]
  by_cases e : u = v
  · subst e
    exact ⟨pk_us, pk_us, hz ▸ pk_us⟩
  · obtain ⟨a, b, c⟩ := h u (by omega)
    exact ⟨(pk_un e).trans a, (pk_un e).trans b, (pk_un e).trans c⟩
theorem nar_bI (p : Prop) : vp_nar .boolean (bI p) = bI p := by
  by_cases h : p
  · rw [bI_t h]; rfl
  · rw [bI_f h]; rfl
section CMform2
variable {l : Launch} {o : Nat} {ad : Nat → Nat} {S : mS} {A : aA}
theorem c_X11_add2 {σ : gH} (hM : Mm σ o ad S) (hR : RepM S A) (hl : A.1.length < 60) (w : Int32) : Ct l mX11_add 1 0 0 [.ref o, .int w] σ (pI fun r σ' => r = nI A.1.length ∧ ∃ S', Mm σ' o ad S' ∧ RepM S' (A.1 ++ [(w, [])], A.2) ∧ S'.2.1 = S.2.1 ∧ (∀ j, j ≠ 2 → S'.1 j = S.1 j) ∧ (∀ q, q ∉ [3, 4] → S'.2.2.1 q = S.2.2.1 q) ∧ S'.2.2.2 = S.2.2.2) := by
  have e2 := hR.1.1
  have hcn : (nI A.1.length).toNatClampNeg = A.1.length := nI_clamp (by omega)
  have hI : vp_in (nI A.1.length) 60 := vp_in_nI hl (by decide)
  refine Ct_of moX11_add [some (.ref o), some (.int w)] rfl (Nat.le_of_ble_eq_true rfl) ?_
  refine g_aload_n (i := 0) dX11_add_0 rfl rfl ?_
  refine gm_get hM (k := 3) dX11_add_1 flX11_7 rfl ?_
  refine g_aload_n (i := 0) dX11_add_4 rfl rfl ?_
  refine gm_get hM (k := 2) dX11_add_5 flX11_118 rfl ?_
  refine g_toi (nI A.1.length) e2 ?_
  refine g_iload_n (i := 1) dX11_add_8 rfl rfl ?_
  refine gm_iast hM dX11_add_9 rfl (hI) (fun σ hM => ?_)
  refine g_aload_n (i := 0) dX11_add_10 rfl rfl ?_
  refine gm_get hM (k := 4) dX11_add_11 flX11_13 rfl ?_
  refine g_aload_n (i := 0) dX11_add_14 rfl rfl ?_
  refine gm_get hM (k := 2) dX11_add_15 flX11_118 rfl ?_
  refine g_toi (nI A.1.length) e2 ?_
  refine g_iconst (v := 0) dX11_add_18 (by decide) ?_
  refine gm_iast hM dX11_add_19 rfl (hI) (fun σ hM => ?_)
  refine g_aload_n (i := 0) dX11_add_20 rfl rfl ?_
  refine g_dup dX11_add_21 rfl ?_
  refine gm_get hM (k := 2) dX11_add_22 flX11_118 rfl ?_
  refine g_toi (nI A.1.length) e2 ?_
  refine g_iconst (v := 1) dX11_add_25 (by decide) ?_
  refine g_iadd dX11_add_26 ?_
  rw [nI_1]
  refine gm_puti hM (k := 2) dX11_add_27 flX11_118 fp9_2 (by decide) (fun σ hM => ?_)
  refine g_aload_n (i := 0) dX11_add_30 rfl rfl ?_
  refine gm_get hM (k := 2) dX11_add_31 flX11_118 rfl ?_
  refine g_toi (nI (A.1.length + 1)) rfl ?_
  refine g_iconst (v := 1) dX11_add_34 (by decide) ?_
  refine g_isub dX11_add_35 ?_
  rw [nI_pred]
  refine g_iret dX11_add_36 rfl ?_
  rw [hcn] at hM
  refine ⟨_, rfl, rfl, _, hM, ?_, rfl, fun j hj => va_up_ne _ _ hj, fun q hq => ?zfr, rfl⟩
  case zfr => simp only [List.mem_cons, List.not_mem_nil, or_false, not_or] at hq; show va_up (va_up S.2.2.1 3 _) 4 _ q = _; rw [va_up_ne _ _ hq.2, va_up_ne _ _ hq.1]
  refine hR.forms _ (fun k hk => ?_) (fun k hk => ?_) (fun k hk => rfl) ?_ ?_ (fun f g hg => ?_)
  · simp only [List.mem_cons, List.not_mem_nil, or_false] at hk
    rcases hk with rfl | rfl <;> rfl
  · simp only [List.mem_cons, List.not_mem_nil, or_false] at hk
    rcases hk with rfl | rfl | rfl | rfl | rfl | rfl <;> rfl
  · rw [List.length_append]; rfl
  · rw [List.length_append]; exact hl
  · by_cases hj : f < A.1.length
    · rw [List.getElem?_append_left hj] at hg
      obtain ⟨r1, r2, r3, r4⟩ := hR.1.2.2 f g hg
      refine ⟨?_, ?_, r3, r4⟩
      · show upd _ A.1.length _ f = _; rw [pk_un (by omega)]; exact r1
      · show upd _ A.1.length _ f = _; rw [pk_un (by omega)]; exact r2
    · have hfe : f = A.1.length := by
        have := (List.getElem?_eq_some_iff.mp hg).1
        rw [List.length_append] at this
        simp only [List.length_cons, List.length_nil] at this
        omega
      subst hfe
      rw [List.getElem?_append_right (Nat.le_refl _), Nat.sub_self] at hg
      cases hg
      refine ⟨?_, ?_, Nat.zero_le _, fun k s hs => by simp at hs⟩
      · show upd _ A.1.length _ A.1.length = _; rw [pk_us]
      · show upd _ A.1.length _ A.1.length = _; rw [pk_us]; rfl
theorem c_X11_put2 {σ : gH} (hM : Mm σ o ad S) (hR : RepM S A) {j : Nat} {g : aF} (hg : A.1[j]? = some g) (hl : g.2.length < 12) (k x : Int32) (y : Int64) : Ct l mX11_put 2 0 0 [.ref o, .int (nI j), .int k, .int x, .long y] σ (pI fun r σ' => r = nI (g.2.length + 1) ∧ ∃ S', Mm σ' o ad S' ∧ RepM S' (A.1.set j (g.1, g.2 ++ [(k, x, aY k y g.1)]), A.2) ∧ S'.2.1 = S.2.1 ∧ S'.1 = S.1 ∧ (∀ q, q ∉ [4, 5, 6] → S'.2.2.1 q = S.2.2.1 q) ∧ (∀ q, q ∉ [7] → S'.2.2.2 q = S.2.2.2 q)) := by
  have h60 := hR.1.2.1
  have hj := (List.getElem?_eq_some_iff.mp hg).1
  obtain ⟨e3, e4, -, e5⟩ := hR.1.2.2 j g hg
  have hcj : (nI j).toNatClampNeg = j := nI_clamp (by omega)
  have hcn : (nI (12 * j + g.2.length)).toNatClampNeg = 12 * j + g.2.length := nI_clamp (by omega)
  have hIj : vp_in (nI j) 60 := vp_in_nI (by omega) (by decide)
  have hI : vp_in (nI (12 * j + g.2.length)) 720 := vp_in_nI (by omega) (by decide)
  have fin : ∀ (σ' : gH), Mm σ' o ad (uI (uJ (uI (uI S 5 (upd (S.2.2.1 5) (12 * j + g.2.length) k)) 6 (upd (S.2.2.1 6) (12 * j + g.2.length) x)) 7 (vp_updL (S.2.2.2 7) (12 * j + g.2.length) (aY k y g.1))) 4 (upd (S.2.2.1 4) j (nI (g.2.length + 1)))) → ∃ S', Mm σ' o ad S' ∧ RepM S' (A.1.set j (g.1, g.2 ++ [(k, x, aY k y g.1)]), A.2) ∧ S'.2.1 = S.2.1 ∧ S'.1 = S.1 ∧ (∀ q, q ∉ [4, 5, 6] → S'.2.2.1 q = S.2.2.1 q) ∧ (∀ q, q ∉ [7] → S'.2.2.2 q = S.2.2.2 q) := by
    intro σ' hM'
    refine ⟨_, hM', ?_, rfl, rfl, fun q hq => ?zfr, fun q hq => ?zfs⟩
    case zfr => simp only [List.mem_cons, List.not_mem_nil, or_false, not_or] at hq; show va_up (va_up (va_up S.2.2.1 5 _) 6 _) 4 _ q = _; rw [va_up_ne _ _ hq.1, va_up_ne _ _ hq.2.2, va_up_ne _ _ hq.2.1]
    case zfs => simp only [List.mem_cons, List.not_mem_nil, or_false] at hq; show va_up S.2.2.2 7 _ q = _; rw [va_up_ne _ _ hq]
    refine hR.forms _ (fun k hk => rfl) (fun k hk => ?_) (fun k hk => ?_) ?_ ?_ (fun f g' hg' => ?_)
    · simp only [List.mem_cons, List.not_mem_nil, or_false] at hk
      rcases hk with rfl | rfl | rfl | rfl | rfl | rfl <;> rfl
    · simp only [List.mem_cons, List.not_mem_nil, or_false] at hk
      rcases hk with rfl | rfl | rfl <;> rfl
    · rw [List.length_set]; exact hR.1.1
    · rw [List.length_set]; exact h60
    · by_cases hf : f = j
      · subst hf
        rw [List.getElem?_set] at hg'
        simp only [if_true, hj] at hg'
        cases hg'
        refine ⟨e3, ?_, ?_, fun q s hs => ?_⟩
        · show upd _ f _ f = _; rw [pk_us, List.length_append]; rfl
        · rw [List.length_append]; exact hl
        · by_cases hq : q < g.2.length
          · rw [List.getElem?_append_left hq] at hs
            obtain ⟨t1, t2, t3⟩ := e5 q s hs
            refine ⟨?_, ?_, ?_⟩
            · show upd _ _ _ _ = _; rw [pk_un (by omega)]; exact t1
            · show upd _ _ _ _ = _; rw [pk_un (by omega)]; exact t2
            · show vp_updL _ _ _ _ = _; rw [pk_uLn (by omega)]; exact t3
          · have hqe : q = g.2.length := by
              have := (List.getElem?_eq_some_iff.mp hs).1
              rw [List.length_append] at this
              simp only [List.length_cons, List.length_nil] at this
              omega
            subst hqe
            rw [List.getElem?_append_right (Nat.le_refl _), Nat.sub_self] at hs
            cases hs
            refine ⟨?_, ?_, ?_⟩
            · show upd _ _ _ _ = _; rw [pk_us]
            · show upd _ _ _ _ = _; rw [pk_us]
            · show vp_updL _ _ _ _ = _; rw [pk_uLs]
      · rw [List.getElem?_set_ne (Ne.symm hf)] at hg'
        obtain ⟨r1, r2, r3, r4⟩ := hR.1.2.2 f g' hg'
        refine ⟨r1, ?_, r3, fun q s hs => ?_⟩
        · show upd _ j _ f = _; rw [pk_un hf]; exact r2
        · have hq := (List.getElem?_eq_some_iff.mp hs).1
          obtain ⟨t1, t2, t3⟩ := r4 q s hs
          refine ⟨?_, ?_, ?_⟩
          · show upd _ _ _ _ = _; rw [pk_un (by omega)]; exact t1
          · show upd _ _ _ _ = _; rw [pk_un (by omega)]; exact t2
          · show vp_updL _ _ _ _ = _; rw [pk_uLn (by omega)]; exact t3
  refine Ct_of moX11_put [some (.ref o), some (.int (nI j)), some (.int k), some (.int x), some (.long y), none, none] rfl (Nat.le_of_ble_eq_true rfl) ?_
  refine g_bipush (v := 12) dX11_put_0 (by decide) ?_
  refine g_iload_n (i := 1) dX11_put_2 rfl rfl ?_
  refine g_imul dX11_put_3 ?_
  refine g_aload_n (i := 0) dX11_put_4 rfl rfl ?_
  refine gm_get hM (k := 4) dX11_put_5 flX11_13 rfl ?_
  refine g_iload_n (i := 1) dX11_put_8 rfl rfl ?_
  refine gm_iald hM dX11_put_9 rfl (hIj) ?_
  refine g_toi (nI g.2.length) (by rw [hcj]; exact e4) ?_
  refine g_iadd dX11_put_10 ?_
  rw [ix12]
  refine g_istore (ls' := [_, _, _, _, _, _, _]) dX11_put_11 (by decide) rfl rfl ?_
  refine g_aload_n (i := 0) dX11_put_13 rfl rfl ?_
  refine gm_get hM (k := 5) dX11_put_14 flX11_16 rfl ?_
  refine g_iload dX11_put_17 rfl ?_
  refine g_iload_n (i := 2) dX11_put_19 rfl rfl ?_
  refine gm_iast hM dX11_put_20 rfl (hI) (fun σ hM => ?_)
  refine g_aload_n (i := 0) dX11_put_21 rfl rfl ?_
  refine gm_get hM (k := 6) dX11_put_22 flX11_19 rfl ?_
  refine g_iload dX11_put_25 rfl ?_
  refine g_iload_n (i := 3) dX11_put_27 rfl rfl ?_
  refine gm_iast hM dX11_put_28 rfl (hI) (fun σ hM => ?_)
  refine g_aload_n (i := 0) dX11_put_29 rfl rfl ?_
  refine gm_get hM (k := 7) dX11_put_30 flX11_22 rfl ?_
  refine g_iload dX11_put_33 rfl ?_
  refine g_iload_n (i := 2) dX11_put_35 rfl rfl ?_
  refine g_callSi (My := mX11_takesOperand) [_] dX11_put_36 lkX11_132 mvX11_takesOperand rfl (c_X11_takesOperand _) (by decide) (by decide) (by decide) rfl (Nat.le_of_ble_eq_true rfl) (fun zr36 σ zh36 => ?_)
  obtain ⟨rfl, rfl⟩ := zh36
  refine g_if_ne (tgt := 49) dX11_put_39 (by decide) (fun zc39 => ?_) (fun zc39 => ?_)
  · refine g_lload dX11_put_49 rfl ?_
    refine g_goto (tgt := 65) dX11_put_51 (by decide) ?_
    first
    | refine g_tol (aY k y g.1) (by unfold aY; rw [if_pos (Or.inl (bI_ne0.mp zc39))]) ?_
    | refine g_tol (aY k y g.1) (by unfold aY; rw [if_pos (Or.inr (bI_ne0.mp zc46))]) ?_
    | refine g_tol (aY k y g.1) (by unfold aY; rw [if_neg (fun z => z.elim (bI_eq0.mp zc39) (bI_eq0.mp zc46))]) ?_
    refine gm_last hM dX11_put_65 rfl (hI) (fun σ hM => ?_)
    refine g_aload_n (i := 0) dX11_put_66 rfl rfl ?_
    refine gm_get hM (k := 4) dX11_put_67 flX11_13 rfl ?_
    refine g_iload_n (i := 1) dX11_put_70 rfl rfl ?_
    refine g_dup2 dX11_put_71 rfl rfl ?_
    refine gm_iald hM dX11_put_72 rfl (hIj) ?_
    refine g_toi (nI g.2.length) (by rw [hcj]; exact e4) ?_
    refine g_iconst (v := 1) dX11_put_73 (by decide) ?_
    refine g_iadd dX11_put_74 ?_
    rw [nI_1]
    refine gm_iast hM dX11_put_75 rfl (hIj) (fun σ hM => ?_)
    refine g_aload_n (i := 0) dX11_put_76 rfl rfl ?_
    refine gm_get hM (k := 4) dX11_put_77 flX11_13 rfl ?_
    refine g_iload_n (i := 1) dX11_put_80 rfl rfl ?_
    refine gm_iald hM dX11_put_81 rfl (hIj) ?_
    refine g_toi (nI (g.2.length + 1)) (by rw [hcj]; show upd _ j _ j = _; rw [pk_us]) ?_
    refine g_iret dX11_put_82 rfl ?_
    rw [hcj, hcn] at hM
    exact ⟨_, rfl, rfl, fin _ hM⟩
  · refine g_iload_n (i := 2) dX11_put_42 rfl rfl ?_
    refine g_callSi (My := mX11_takesCount) [_] dX11_put_43 lkX11_140 mvX11_takesCount rfl (c_X11_takesCount _) (by decide) (by decide) (by decide) rfl (Nat.le_of_ble_eq_true rfl) (fun zr43 σ zh43 => ?_)
    obtain ⟨rfl, rfl⟩ := zh43
    refine g_if_eq (tgt := 54) dX11_put_46 (by decide) (fun zc46 => ?_) (fun zc46 => ?_)
    · refine g_lload dX11_put_54 rfl ?_
      refine g_aload_n (i := 0) dX11_put_56 rfl rfl ?_
      refine gm_get hM (k := 3) dX11_put_57 flX11_7 rfl ?_
      refine g_iload_n (i := 1) dX11_put_60 rfl rfl ?_
      refine gm_iald hM dX11_put_61 rfl (hIj) ?_
      refine g_toi g.1 (by rw [hcj]; exact e3) ?_
      refine g_callSl (My := mX11_low) [_, _] dX11_put_62 lkX11_105 mvX11_low rfl (c_X11_low _ _) (by decide) (by decide) (by decide) rfl (Nat.le_of_ble_eq_true rfl) (fun zr62 σ zh62 => ?_)
      obtain ⟨rfl, rfl⟩ := zh62
      first
      | refine g_tol (aY k y g.1) (by unfold aY; rw [if_pos (Or.inl (bI_ne0.mp zc39))]) ?_
      | refine g_tol (aY k y g.1) (by unfold aY; rw [if_pos (Or.inr (bI_ne0.mp zc46))]) ?_
      | refine g_tol (aY k y g.1) (by unfold aY; rw [if_neg (fun z => z.elim (bI_eq0.mp zc39) (bI_eq0.mp zc46))]) ?_
      refine gm_last hM dX11_put_65 rfl (hI) (fun σ hM => ?_)
      refine g_aload_n (i := 0) dX11_put_66 rfl rfl ?_
      refine gm_get hM (k := 4) dX11_put_67 flX11_13 rfl ?_
      refine g_iload_n (i := 1) dX11_put_70 rfl rfl ?_
      refine g_dup2 dX11_put_71 rfl rfl ?_
      refine gm_iald hM dX11_put_72 rfl (hIj) ?_
      refine g_toi (nI g.2.length) (by rw [hcj]; exact e4) ?_
      refine g_iconst (v := 1) dX11_put_73 (by decide) ?_
      refine g_iadd dX11_put_74 ?_
      rw [nI_1]
      refine gm_iast hM dX11_put_75 rfl (hIj) (fun σ hM => ?_)
      refine g_aload_n (i := 0) dX11_put_76 rfl rfl ?_
      refine gm_get hM (k := 4) dX11_put_77 flX11_13 rfl ?_
      refine g_iload_n (i := 1) dX11_put_80 rfl rfl ?_
      refine gm_iald hM dX11_put_81 rfl (hIj) ?_
      refine g_toi (nI (g.2.length + 1)) (by rw [hcj]; show upd _ j _ j = _; rw [pk_us]) ?_
      refine g_iret dX11_put_82 rfl ?_
      rw [hcj, hcn] at hM
      exact ⟨_, rfl, rfl, fin _ hM⟩
    · refine g_lload dX11_put_49 rfl ?_
      refine g_goto (tgt := 65) dX11_put_51 (by decide) ?_
      first
      | refine g_tol (aY k y g.1) (by unfold aY; rw [if_pos (Or.inl (bI_ne0.mp zc39))]) ?_
      | refine g_tol (aY k y g.1) (by unfold aY; rw [if_pos (Or.inr (bI_ne0.mp zc46))]) ?_
      | refine g_tol (aY k y g.1) (by unfold aY; rw [if_neg (fun z => z.elim (bI_eq0.mp zc39) (bI_eq0.mp zc46))]) ?_
      refine gm_last hM dX11_put_65 rfl (hI) (fun σ hM => ?_)
      refine g_aload_n (i := 0) dX11_put_66 rfl rfl ?_
      refine gm_get hM (k := 4) dX11_put_67 flX11_13 rfl ?_
      refine g_iload_n (i := 1) dX11_put_70 rfl rfl ?_
      refine g_dup2 dX11_put_71 rfl rfl ?_
      refine gm_iald hM dX11_put_72 rfl (hIj) ?_
      refine g_toi (nI g.2.length) (by rw [hcj]; exact e4) ?_
      refine g_iconst (v := 1) dX11_put_73 (by decide) ?_
      refine g_iadd dX11_put_74 ?_
      rw [nI_1]
      refine gm_iast hM dX11_put_75 rfl (hIj) (fun σ hM => ?_)
      refine g_aload_n (i := 0) dX11_put_76 rfl rfl ?_
      refine gm_get hM (k := 4) dX11_put_77 flX11_13 rfl ?_
      refine g_iload_n (i := 1) dX11_put_80 rfl rfl ?_
      refine gm_iald hM dX11_put_81 rfl (hIj) ?_
      refine g_toi (nI (g.2.length + 1)) (by rw [hcj]; show upd _ j _ j = _; rw [pk_us]) ?_
      refine g_iret dX11_put_82 rfl ?_
      rw [hcj, hcn] at hM
      exact ⟨_, rfl, rfl, fin _ hM⟩
end CMform2
section CMleast4
variable {l : Launch} {o : Nat} {ad : Nat → Nat} {S : mS} {A : aA} {post : Option Value → gH → Prop}
theorem l1_X11_least {sg ws : Int32} {d : Int64} (ha : mIsA 8 sg ws d) (mo : Int32) (kk : ∀ σ' S' v, Mm σ' o ad S' → sL S S' → ldI sg ws d S' 256 → G l mX11_least 11 0 0 post σ' 132 [some (.ref o), some (.int sg), some (.int ws), some (.long d), none, some (.int mo), v, none, none] []) :
    ∀ (n v : Nat) (σ : gH) (S' : mS), v + n = 256 → Mm σ o ad S' → sL S S' → ldI sg ws d S' v → G l mX11_least 11 0 0 post σ 60 [some (.ref o), some (.int sg), some (.int ws), some (.long d), none, some (.int mo), some (.int (nI v)), none, none] [] := by
  intro n
  induction n with
  | zero =>
    intro v σ S' hv hM hF hI
    obtain rfl : v = 256 := by omega
    refine g_iload dX11_least_60 rfl ?_
    refine g_sipush (v := 256) dX11_least_62 (by decide) ?_
    refine g_icmp_ge (tgt := 132) dX11_least_65 (by decide) (fun zc65 => ?_) (fun zc65 => ?_)
    · exact kk σ S' _ hM hF hI
    · exact absurd (by decide) zc65
  | succ n ih =>
    intro v σ S' hv hM hF hI
    have hcv : (nI v).toNatClampNeg = v := nI_clamp (by omega)
    have hV : vp_in (nI v) 1024 := vp_in_nI (by omega) (by decide)
    have hV2 : vp_in (nI v) 256 := vp_in_nI (by omega) (by decide)
    have hlv : (nI v).toInt64 = lN v := nI_l (by omega)
    refine g_iload dX11_least_60 rfl ?_
    refine g_sipush (v := 256) dX11_least_62 (by decide) ?_
    refine g_icmp_ge (tgt := 132) dX11_least_65 (by decide) (fun zc65 => ?_) (fun zc65 => ?_)
    · exact absurd zc65 (nI_ge (b := 256) (by omega) (by decide))
    · refine g_aload_n (i := 0) dX11_least_68 rfl rfl ?_
      refine gm_get hM (k := 29) dX11_least_69 flX11_59 rfl ?_
      refine g_iload dX11_least_72 rfl ?_
      refine g_iload dX11_least_74 rfl ?_
      refine gm_iast hM dX11_least_76 rfl (hV) (fun σ hM => ?_)
      rw [hcv] at hM
      refine g_aload_n (i := 0) dX11_least_77 rfl rfl ?_
      refine gm_get hM (k := 30) dX11_least_78 flX11_62 rfl ?_
      refine g_iload dX11_least_81 rfl ?_
      refine g_aload_n (i := 0) dX11_least_83 rfl rfl ?_
      refine g_bipush (v := 8) dX11_least_84 (by decide) ?_
      refine g_iload_n (i := 1) dX11_least_86 rfl rfl ?_
      refine g_iload_n (i := 2) dX11_least_87 rfl rfl ?_
      refine g_lload_n (i := 3) dX11_least_88 rfl rfl ?_
      refine g_bipush (v := 8) dX11_least_89 (by decide) ?_
      refine g_callSl (My := mX11_low) [_, _] dX11_least_91 lkX11_105 mvX11_low rfl (c_X11_low _ _) (by decide) (by decide) (by decide) rfl (Nat.le_of_ble_eq_true rfl) (fun zr91 σ zh91 => ?_)
      obtain ⟨rfl, rfl⟩ := zh91
      refine g_iload dX11_least_94 rfl ?_
      refine g_i2l dX11_least_96 ?_
      rw [hlv]
      refine g_callVl (My := mX11_asked) [_, _, _, _, _] dX11_least_97 lkX11_247 mvX11_asked rfl hM.1 rfl (c_X11_asked hM 8 sg ws (mLow d 8) (lN v) (Or.inr (fun q => ha.2.2.2.1 (by have q1 := mSig_0 ha.1 q; rw [mLow_mLow _ ha.1] at q1; exact q1)))) (by decide) (by decide) (by decide) rfl (Nat.le_of_ble_eq_true rfl) (fun zr97 σ zh97 => ?_)
      obtain ⟨ze97, S1, hM, e25, hF1⟩ := zh97
      refine g_tol (dqF sg ws d v) ze97 ?_
      have hF2 : sL S S1 := (hF.uI (k := 29) (by decide) _).sF hF1
      have e29 : S1.2.2.1 29 = upd (S'.2.2.1 29) v (nI v) := by rw [hF1.2.2]; rfl
      have e30 : S1.2.2.1 30 = S'.2.2.1 30 := by rw [hF1.2.2]; rfl
      have e31 : S1.2.2.1 31 = S'.2.2.1 31 := by rw [hF1.2.2]; rfl
      refine g_l2i dX11_least_100 ?_
      refine gm_iast hM dX11_least_101 rfl (hV2) (fun σ hM => ?_)
      rw [hcv] at hM
      refine g_aload_n (i := 0) dX11_least_102 rfl rfl ?_
      refine gm_get hM (k := 31) dX11_least_103 flX11_65 rfl ?_
      refine g_iload dX11_least_106 rfl ?_
      refine g_iload_n (i := 2) dX11_least_108 rfl rfl ?_
      refine g_iconst (v := 5) dX11_least_109 (by decide) ?_
      refine g_icmp_ne (tgt := 120) dX11_least_110 (by decide) (fun zc110 => ?_) (fun zc110 => ?_)
      · refine g_iconst (v := 1) dX11_least_120 (by decide) ?_
        refine g_goto (tgt := 125) dX11_least_121 (by decide) ?_
        refine gm_zast hM dX11_least_125 rfl (hV2) (fun σ hM => ?_)
        refine g_iinc (v := _ + 1) (ls' := [_, _, _, _, _, _, _, _, _]) dX11_least_126 rfl rfl (by decide) rfl rfl ?_
        refine g_goto (tgt := 60) dX11_least_129 (by decide) ?_
        rw [hcv] at hM
        refine g_cl (by rw [nI_1]) (ih (v + 1) σ _ (by omega) hM ((hF2.uI (k := 30) (by decide) _).uI (k := 31) (by decide) _) ?_)
        refine ldI_next hI (z := vp_nar .boolean _) ?_ e29 (by show upd (S1.2.2.1 30) v _ = _; rw [e30]) (by show upd (S1.2.2.1 31) v _ = _; rw [e31])
        first
        | exact (show vp_nar .boolean (1 : Int32) = 1 from rfl).trans (bI_t (fun z => zc110 z.1)).symm
        | exact (show vp_nar .boolean (1 : Int32) = 1 from rfl).trans (bI_t (fun z => bI_eq0.mp zc117 z.2)).symm
        | exact (show vp_nar .boolean (0 : Int32) = 0 from rfl).trans (bI_f (fun z => z ⟨zc110, bI_ne0.mp zc117⟩)).symm
      · refine g_aload_n (i := 0) dX11_least_113 rfl rfl ?_
        refine gm_get hM (k := 25) dX11_least_114 flX11_243 rfl ?_
        refine g_toi _ e25 ?_
        refine g_if_ne (tgt := 124) dX11_least_117 (by decide) (fun zc117 => ?_) (fun zc117 => ?_)
        · refine g_iconst (v := 0) dX11_least_124 (by decide) ?_
          refine gm_zast hM dX11_least_125 rfl (hV2) (fun σ hM => ?_)
          refine g_iinc (v := _ + 1) (ls' := [_, _, _, _, _, _, _, _, _]) dX11_least_126 rfl rfl (by decide) rfl rfl ?_
          refine g_goto (tgt := 60) dX11_least_129 (by decide) ?_
          rw [hcv] at hM
          refine g_cl (by rw [nI_1]) (ih (v + 1) σ _ (by omega) hM ((hF2.uI (k := 30) (by decide) _).uI (k := 31) (by decide) _) ?_)
          refine ldI_next hI (z := vp_nar .boolean _) ?_ e29 (by show upd (S1.2.2.1 30) v _ = _; rw [e30]) (by show upd (S1.2.2.1 31) v _ = _; rw [e31])
          first
          | exact (show vp_nar .boolean (1 : Int32) = 1 from rfl).trans (bI_t (fun z => zc110 z.1)).symm
          | exact (show vp_nar .boolean (1 : Int32) = 1 from rfl).trans (bI_t (fun z => bI_eq0.mp zc117 z.2)).symm
          | exact (show vp_nar .boolean (0 : Int32) = 0 from rfl).trans (bI_f (fun z => z ⟨zc110, bI_ne0.mp zc117⟩)).symm
        · refine g_iconst (v := 1) dX11_least_120 (by decide) ?_
          refine g_goto (tgt := 125) dX11_least_121 (by decide) ?_
          refine gm_zast hM dX11_least_125 rfl (hV2) (fun σ hM => ?_)
          refine g_iinc (v := _ + 1) (ls' := [_, _, _, _, _, _, _, _, _]) dX11_least_126 rfl rfl (by decide) rfl rfl ?_
          refine g_goto (tgt := 60) dX11_least_129 (by decide) ?_
          rw [hcv] at hM
          refine g_cl (by rw [nI_1]) (ih (v + 1) σ _ (by omega) hM ((hF2.uI (k := 30) (by decide) _).uI (k := 31) (by decide) _) ?_)
          refine ldI_next hI (z := vp_nar .boolean _) ?_ e29 (by show upd (S1.2.2.1 30) v _ = _; rw [e30]) (by show upd (S1.2.2.1 31) v _ = _; rw [e31])
          first
          | exact (show vp_nar .boolean (1 : Int32) = 1 from rfl).trans (bI_t (fun z => zc110 z.1)).symm
          | exact (show vp_nar .boolean (1 : Int32) = 1 from rfl).trans (bI_t (fun z => bI_eq0.mp zc117 z.2)).symm
          | exact (show vp_nar .boolean (0 : Int32) = 0 from rfl).trans (bI_f (fun z => z ⟨zc110, bI_ne0.mp zc117⟩)).symm
theorem l2_X11_least {S0 : mS} {tl : Nat → Int64} {pr : Nat → Nat} {cn : Nat → Prop} {dq : Nat → Int64} (htl : S0.2.2.2 27 = tl) (hL : LC S0 pr cn dq) {m : Nat} (hm : m ≤ 3) (sg ws : Int32) (d : Int64) (kk : ∀ σ' S' v, TSI o ad S0 tl [] (scAll (rtF cn dq) pr tl m) σ' S' → G l mX11_least 11 0 0 post σ' 163 [some (.ref o), some (.int sg), some (.int ws), some (.long d), none, some (.int (nI m)), v, none, none] []) :
    ∀ (n s : Nat) (σ : gH) (S : mS), s + n = m → TSI o ad S0 tl [] (scAll (rtF cn dq) pr tl s) σ S → G l mX11_least 11 0 0 post σ 142 [some (.ref o), some (.int sg), some (.int ws), some (.long d), none, some (.int (nI m)), some (.int (nI (s + 1))), none, none] [] := by
  intro n
  induction n with
  | zero =>
    intro s σ S hs hT
    obtain rfl : s = m := by omega
    have hM := hT.1
    refine g_iload dX11_least_142 rfl ?_
    refine g_iload dX11_least_144 rfl ?_
    refine g_icmp_gt (tgt := 163) dX11_least_146 (by decide) (fun zc146 => ?_) (fun zc146 => ?_)
    · exact kk σ S _ hT
    · exact absurd (nI_lt (Nat.lt_succ_self _) (by omega)) zc146
  | succ n ih =>
    intro s σ S hs hT
    have hM := hT.1
    refine g_iload dX11_least_142 rfl ?_
    refine g_iload dX11_least_144 rfl ?_
    refine g_icmp_gt (tgt := 163) dX11_least_146 (by decide) (fun zc146 => ?_) (fun zc146 => ?_)
    · exact absurd zc146 (nI_nlt (by omega) (by omega))
    · refine g_aload_n (i := 0) dX11_least_149 rfl rfl ?_
      refine g_iconst (v := 0) dX11_least_150 (by decide) ?_
      refine g_iload dX11_least_151 rfl ?_
      refine g_iconst (v := 0) dX11_least_153 (by decide) ?_
      refine g_callVv (My := mX11_tryStep) [_, _, _] dX11_least_154 lkX11_278 mvX11_tryStep rfl hM.1 rfl (c_X11_tryStep htl hL (show s + 1 ≤ 3 by omega) s [] (by simp; omega) σ S _ hT) (by first | decide | omega) (by first | decide | omega) (by first | decide | omega) rfl (Nat.le_of_ble_eq_true rfl) (fun σ zh154 => ?_)
      obtain ⟨S1, hT1⟩ := zh154
      refine g_iinc (v := _ + 1) (ls' := [_, _, _, _, _, _, _, _, _]) dX11_least_157 rfl rfl (by decide) rfl rfl ?_
      refine g_goto (tgt := 142) dX11_least_160 (by decide) ?_
      exact g_cl (by rw [nI_1]) (ih (s + 1) σ S1 (by omega) hT1)
theorem l3_X11_least {f0 : List aF} {R2 : (Nat → Int32) × (Nat → Int64) × (Nat → aHd) × List aAc × Nat} {B : List aSt} (hB3 : B.length ≤ 3) {tl : Nat → Int64} (hgd : gdF tl B) (h60 : f0.length < 60) (sg ws : Int32) (d : Int64) (mo : Int32) (hp : ∀ σ' S', Mm σ' o ad S' → RepM S' (aNote (f0 ++ [(8, B)], R2) (1, f0.length, 0, 0, (0, []))) → post (some (.int (nI f0.length))) σ') :
    ∀ (n k : Nat) (σ : gH) (S : mS) (x8 : Option Value), k + n = B.length → Mm σ o ad S → RepM S (f0 ++ [(8, B.take k)], R2) → S.1 39 = nI B.length → (∀ (i : Nat) (s : aSt), B[i]? = some s → S.2.2.1 35 i = s.1 ∧ S.2.2.1 36 i = s.2.1 ∧ S.2.2.2 37 i = s.2.2) → G l mX11_least 11 0 0 post σ 187 [some (.ref o), some (.int sg), some (.int ws), some (.long d), none, some (.int mo), some (.int (nI f0.length)), some (.int (nI k)), x8] [] := by
  intro n
  induction n with
  | zero =>
    intro k σ S x8 hk hM hR h39 hB
    obtain rfl : k = B.length := by omega
    rw [List.take_length] at hR
    refine g_iload dX11_least_187 rfl ?_
    refine g_aload_n (i := 0) dX11_least_189 rfl rfl ?_
    refine gm_get hM (k := 39) dX11_least_190 flX11_285 rfl ?_
    refine g_toi (nI B.length) h39 ?_
    refine g_icmp_ge (tgt := 231) dX11_least_193 (by decide) (fun zc193 => ?_) (fun zc193 => ?_)
    · refine g_aload_n (i := 0) dX11_least_231 rfl rfl ?_
      refine g_iconst (v := 1) dX11_least_232 (by decide) ?_
      refine g_iload dX11_least_233 rfl ?_
      refine g_iconst (v := 0) dX11_least_235 (by decide) ?_
      refine g_lconst (v := 0) dX11_least_236 (by decide) ?_
      refine g_callVv (My := mX11_note) [_, _, _, _] dX11_least_237 lkX11_160 mvX11_note rfl hM.1 rfl (c_X11_note hM hR 1 f0.length 0 0) (by decide) (by decide) (by decide) rfl (Nat.le_of_ble_eq_true rfl) (fun σ zh237 => ?_)
      obtain ⟨S2, k0, hM, hR, -, -⟩ := zh237
      refine g_iload dX11_least_240 rfl ?_
      refine g_iret dX11_least_242 rfl ?_
      exact hp _ S2 hM (hR.nz (by decide))
    · exact absurd (nI_le (Nat.le_refl _) (by omega)) zc193
  | succ n ih =>
    intro k σ S x8 hk hM hR h39 hB
    obtain ⟨s, hs⟩ : ∃ s, B[k]? = some s := ⟨_, List.getElem?_eq_getElem (by omega)⟩
    obtain ⟨b1, b2, b3⟩ := hB k s hs
    have hck : (nI k).toNatClampNeg = k := nI_clamp (by omega)
    have hI : vp_in (nI k) 3 := vp_in_nI (by omega) (by decide)
    have hgt : (f0 ++ [((8 : Int32), B.take k)])[f0.length]? = some (8, B.take k) := by simp
    have hlk : (B.take k).length = k := by rw [List.length_take]; omega
    have hset : (f0 ++ [((8 : Int32), B.take k)]).set f0.length (8, B.take k ++ [(s.1, s.2.1, aY s.1 s.2.2 8)]) = f0 ++ [(8, B.take (k + 1))] := by
      rw [List.set_append_right _ _ (Nat.le_refl _), Nat.sub_self, aY_gd (hgd k s hs), List.take_add_one, hs]
      rfl
    refine g_iload dX11_least_187 rfl ?_
    refine g_aload_n (i := 0) dX11_least_189 rfl rfl ?_
    refine gm_get hM (k := 39) dX11_least_190 flX11_285 rfl ?_
    refine g_toi (nI B.length) h39 ?_
    refine g_icmp_ge (tgt := 231) dX11_least_193 (by decide) (fun zc193 => ?_) (fun zc193 => ?_)
    · exact absurd zc193 (nI_ge (by omega) (by omega))
    · refine g_aload_n (i := 0) dX11_least_196 rfl rfl ?_
      refine g_iload dX11_least_197 rfl ?_
      refine g_aload_n (i := 0) dX11_least_199 rfl rfl ?_
      refine gm_get hM (k := 35) dX11_least_200 flX11_78 rfl ?_
      refine g_iload dX11_least_203 rfl ?_
      refine gm_iald hM dX11_least_205 rfl (hI) ?_
      refine g_toi s.1 (by rw [hck]; exact b1) ?_
      refine g_aload_n (i := 0) dX11_least_206 rfl rfl ?_
      refine gm_get hM (k := 36) dX11_least_207 flX11_81 rfl ?_
      refine g_iload dX11_least_210 rfl ?_
      refine gm_iald hM dX11_least_212 rfl (hI) ?_
      refine g_toi s.2.1 (by rw [hck]; exact b2) ?_
      refine g_aload_n (i := 0) dX11_least_213 rfl rfl ?_
      refine gm_get hM (k := 37) dX11_least_214 flX11_84 rfl ?_
      refine g_iload dX11_least_217 rfl ?_
      refine gm_lald hM dX11_least_219 rfl (hI) ?_
      refine g_tol s.2.2 (by rw [hck]; exact b3) ?_
      refine g_callVi (My := mX11_put) [_, _, _, _] dX11_least_220 lkX11_167 mvX11_put rfl hM.1 rfl (c_X11_put2 hM hR hgt (by show (B.take k).length < 12; omega) s.1 s.2.1 s.2.2) (by decide) (by decide) (by decide) rfl (Nat.le_of_ble_eq_true rfl) (fun zr220 σ zh220 => ?_)
      obtain ⟨ze220, S1, hM, hR, e1, e2, e3, e4⟩ := zh220
      refine g_istore (ls' := [_, _, _, _, _, _, _, _, _]) dX11_least_223 (by decide) rfl rfl ?_
      refine g_iinc (v := _ + 1) (ls' := [_, _, _, _, _, _, _, _, _]) dX11_least_225 rfl rfl (by decide) rfl rfl ?_
      refine g_goto (tgt := 187) dX11_least_228 (by decide) ?_
      have hR1 : RepM S1 (f0 ++ [(8, B.take (k + 1))], R2) := by rw [← hset]; exact hR
      refine g_cl (by rw [nI_1]) (ih (k + 1) σ S1 _ (by omega) hM hR1 (by rw [e2]; exact h39) (fun i t ht => ?_))
      rw [e3 35 (by decide), e3 36 (by decide), e4 37 (by decide)]
      exact hB i t ht
theorem c_X11_least {σ : gH} (hM : Mm σ o ad S) (hR : RepM S A) (hpr : prOk A) (sg ws : Int32) (d : Int64) (most : Int32) : Ct l mX11_least 11 0 0 [.ref o, .int sg, .int ws, .long d, .int most] σ (pI (mP o ad (sLeast A sg ws d most))) := by
  have h60 := hR.1.2.1
  have h2 := hR.1.1
  have h28 := hR.2.2.2.2.2.1
  have h12 := hR.2.2.2.2.2.2
  refine Ct_of moX11_least [some (.ref o), some (.int sg), some (.int ws), some (.long d), none, some (.int most), none, none, none] rfl (Nat.le_of_ble_eq_true rfl) ?_
  by_cases hh : (¬ most < 1 ∧ most ≤ 3) ∧ mIsA 8 sg ws d
  · by_cases hf : A.1.length = 60 ∨ A.2.2.2.2.2 = 12
    · have hv : sLeast A sg ws d most = (-2, A) := by
        unfold sLeast
        rw [if_pos hh, if_pos hf]
      rw [hv]
      refine g_iload dX11_least_0 rfl ?_
      refine g_iconst (v := 1) dX11_least_2 (by decide) ?_
      refine g_icmp_lt (tgt := 24) dX11_least_3 (by decide) (fun zc3 => ?_) (fun zc3 => ?_)
      · exact absurd zc3 hh.1.1
      · refine g_iload dX11_least_6 rfl ?_
        refine g_iconst (v := 3) dX11_least_8 (by decide) ?_
        refine g_icmp_gt (tgt := 24) dX11_least_9 (by decide) (fun zc9 => ?_) (fun zc9 => ?_)
        · exact absurd zc9 (Int32.not_lt.mpr hh.1.2)
        · refine g_aload_n (i := 0) dX11_least_12 rfl rfl ?_
          refine g_bipush (v := 8) dX11_least_13 (by decide) ?_
          refine g_iload_n (i := 1) dX11_least_15 rfl rfl ?_
          refine g_iload_n (i := 2) dX11_least_16 rfl rfl ?_
          refine g_lload_n (i := 3) dX11_least_17 rfl rfl ?_
          refine g_callVi (My := mX11_isAsking) [_, _, _, _] dX11_least_18 lkX11_222 mvX11_isAsking rfl hM.1 rfl (c_X11_isAsking hM _ _ _ _) (by decide) (by decide) (by decide) rfl (Nat.le_of_ble_eq_true rfl) (fun zr18 σ zh18 => ?_)
          obtain ⟨rfl, rfl⟩ := zh18
          refine g_if_ne (tgt := 26) dX11_least_21 (by decide) (fun zc21 => ?_) (fun zc21 => ?_)
          · refine g_aload_n (i := 0) dX11_least_26 rfl rfl ?_
            refine gm_get hM (k := 2) dX11_least_27 flX11_118 rfl ?_
            refine g_toi (nI A.1.length) h2 ?_
            refine g_bipush (v := 60) dX11_least_30 (by decide) ?_
            refine g_icmp_eq (tgt := 44) dX11_least_32 (by decide) (fun zc32 => ?_) (fun zc32 => ?_)
            · refine g_bipush (v := (-2)) dX11_least_44 (by decide) ?_
              refine g_iret dX11_least_46 rfl ?_
              exact ⟨_, rfl, rfl, S, hM, hR⟩
            · refine g_aload_n (i := 0) dX11_least_35 rfl rfl ?_
              refine gm_get hM (k := 28) dX11_least_36 flX11_292 rfl ?_
              refine g_toi (nI A.2.2.2.2.2) h28 ?_
              refine g_bipush (v := 12) dX11_least_39 (by decide) ?_
              refine g_icmp_ne (tgt := 47) dX11_least_41 (by decide) (fun zc41 => ?_) (fun zc41 => ?_)
              · exact absurd hf (fun q => q.elim (fun q => zc32 (by rw [q]; rfl)) (fun q => zc41 (by rw [q]; rfl)))
              · refine g_bipush (v := (-2)) dX11_least_44 (by decide) ?_
                refine g_iret dX11_least_46 rfl ?_
                exact ⟨_, rfl, rfl, S, hM, hR⟩
          · exact absurd hh.2 (bI_eq0.mp zc21)
    · obtain ⟨m, hm, rfl⟩ : ∃ m : Nat, m ≤ 3 ∧ most = nI m := by
        have h0 : ¬ most < 0 := by
          intro q
          refine hh.1.1 (Int32.lt_iff_toInt_lt.mpr ?_)
          have q1 := Int32.lt_iff_toInt_lt.mp q
          have e0 : (0 : Int32).toInt = 0 := by decide
          have e1 : (1 : Int32).toInt = 1 := by decide
          omega
        obtain ⟨j, hj, rfl⟩ := ixle 3 (by decide) h0 hh.1.2
        exact ⟨j, hj, rfl⟩
      have hcm : (nI m).toNatClampNeg = m := nI_clamp (by omega)
      have hf1 : ¬ A.1.length = 60 := fun q => hf (Or.inl q)
      have hf2 : ¬ A.2.2.2.2.2 = 12 := fun q => hf (Or.inr q)
      have hv : sLeast A sg ws d (nI m) = (if (lsB A sg ws d m).1 = 1000 then (-3, aLook A) else (nI A.1.length, aNote ((aLook A).1 ++ [(8, (lsB A sg ws d m).2)], (aLook A).2) (1, A.1.length, 0, 0, (0, [])))) := by
        unfold sLeast
        rw [if_pos hh, if_neg hf, hcm]
      rw [hv]
      have hRl : RepM (ui S 28 (nI (A.2.2.2.2.2 + 1))) (aLook A) := by
        obtain ⟨a, b, c, e, f, g1, g2⟩ := hR
        exact ⟨a, b, c, e, f, rfl, by show A.2.2.2.2.2 + 1 ≤ 12; omega⟩
      have t132 : ∀ (σ' : gH) (S1 : mS) (v : Option Value), Mm σ' o ad S1 → sL (ui S 28 (nI (A.2.2.2.2.2 + 1))) S1 → ldI sg ws d S1 256 → G l mX11_least 11 0 0 (pI (mP o ad (if (lsB A sg ws d m).1 = 1000 then (-3, aLook A) else (nI A.1.length, aNote ((aLook A).1 ++ [(8, (lsB A sg ws d m).2)], (aLook A).2) (1, A.1.length, 0, 0, (0, [])))))) σ' 132 [some (.ref o), some (.int sg), some (.int ws), some (.long d), none, some (.int (nI m)), v, none, none] [] := by
        intro σ S1 v hM hF hI
        have hR1 : RepM S1 (aLook A) := hRl.sL hF
        have hL : LC (ui S1 38 1000) (fun i => (A.2.1 i).toNatClampNeg) (cnF sg ws d) (dqF sg ws d) := by
          refine ⟨fun i hi => ?_, fun u hu => ?_⟩
          · obtain ⟨p, p1, p2, p3⟩ := hpr i hi
            have e := hR1.2.1 i hi
            have e' : S1.2.2.1 8 i = nI p := e.trans p3
            have ep : (A.2.1 i).toNatClampNeg = p := by rw [p3]; exact nI_clamp (by omega)
            show S1.2.2.1 8 i = nI (A.2.1 i).toNatClampNeg ∧ 1 ≤ (A.2.1 i).toNatClampNeg ∧ (A.2.1 i).toNatClampNeg ≤ 50
            rw [ep]
            exact ⟨e', p1, p2⟩
          · obtain ⟨-, b, c⟩ := hI u hu
            exact ⟨b, mLow_lt (N := 8) _ (Or.inl rfl), c⟩
        have hrow : NWr (ui S1 38 1000) [] 0 := by
          intro i u hi hu
          obtain rfl : i = 0 := by omega
          show S1.2.2.1 29 (256 * 0 + u) = (mLow (lN u) (nI 8)).toInt32
          rw [mLow_id (N := 8) (Or.inl rfl) (by rw [uN_lN (by omega)]; exact hu), lN_i, show 256 * 0 + u = u by omega]
          exact (hI u hu).1
        have hBS : BS (ui S1 38 1000) (1000, []) := ⟨rfl, Nat.le_refl _, fun z => absurd z (Nat.lt_irrefl _)⟩
        have htl4 : ∀ p, p < 4 → S1.2.2.2 27 p = A.2.2.1 p := fun p hp => hR1.2.2.1 p hp
        have eB : scAll (rtF (cnF sg ws d) (dqF sg ws d)) (fun i => (A.2.1 i).toNatClampNeg) (S1.2.2.2 27) m = lsB A sg ws d m := scAll_tl htl4 _ _ m
        have hok : bbOk (S1.2.2.2 27) (lsB A sg ws d m) := by rw [← eB]; exact scAll_ok m hm
        have t163 : ∀ (σ' : gH) (S2 : mS) (v : Option Value), TSI o ad (ui S1 38 1000) (S1.2.2.2 27) [] (lsB A sg ws d m) σ' S2 → G l mX11_least 11 0 0 (pI (mP o ad (if (lsB A sg ws d m).1 = 1000 then (-3, aLook A) else (nI A.1.length, aNote ((aLook A).1 ++ [(8, (lsB A sg ws d m).2)], (aLook A).2) (1, A.1.length, 0, 0, (0, [])))))) σ' 163 [some (.ref o), some (.int sg), some (.int ws), some (.long d), none, some (.int (nI m)), v, none, none] [] := by
          intro σ S2 v hT
          obtain ⟨hM, hF2, -, -, hB2⟩ := hT
          have hR1' : RepM (ui S1 38 1000) (aLook A) := hR1.of (fun k hk => by (simp only [List.mem_cons, List.not_mem_nil, or_false] at hk; rcases hk with rfl | rfl | rfl <;> rfl)) (fun _ _ => rfl) (fun _ _ => rfl)
          have hR2 : RepM S2 (aLook A) := hR1'.sT hF2
          by_cases he : (lsB A sg ws d m).1 = 1000
          · rw [if_pos he]
            refine g_aload_n (i := 0) dX11_least_163 rfl rfl ?_
            refine gm_get hM (k := 38) dX11_least_164 flX11_265 rfl ?_
            refine g_toi (nI (lsB A sg ws d m).1) hB2.1 ?_
            refine g_sipush (v := 1000) dX11_least_167 (by decide) ?_
            refine g_icmp_ne (tgt := 176) dX11_least_170 (by decide) (fun zc170 => ?_) (fun zc170 => ?_)
            · exact absurd (by rw [he]; rfl) zc170
            · refine g_bipush (v := (-3)) dX11_least_173 (by decide) ?_
              refine g_iret dX11_least_175 rfl ?_
              exact ⟨_, rfl, rfl, S2, hM, hR2⟩
          · rw [if_neg he]
            have hlt : (lsB A sg ws d m).1 < 1000 := by have := hok.1; omega
            obtain ⟨q1, q2, q3⟩ := hB2.2.2 hlt
            obtain ⟨g1, g2, g3⟩ := hok.2 hlt
            refine g_aload_n (i := 0) dX11_least_163 rfl rfl ?_
            refine gm_get hM (k := 38) dX11_least_164 flX11_265 rfl ?_
            refine g_toi (nI (lsB A sg ws d m).1) hB2.1 ?_
            refine g_sipush (v := 1000) dX11_least_167 (by decide) ?_
            refine g_icmp_ne (tgt := 176) dX11_least_170 (by decide) (fun zc170 => ?_) (fun zc170 => ?_)
            · refine g_aload_n (i := 0) dX11_least_176 rfl rfl ?_
              refine g_bipush (v := 8) dX11_least_177 (by decide) ?_
              refine g_callVi (My := mX11_add) [_] dX11_least_179 lkX11_156 mvX11_add rfl hM.1 rfl (c_X11_add2 hM hR2 (show A.1.length < 60 by omega) _) (by decide) (by decide) (by decide) rfl (Nat.le_of_ble_eq_true rfl) (fun zr179 σ zh179 => ?_)
              obtain ⟨ze179, S3, hM, hR3, e1, e2, e3, e4⟩ := zh179
              rw [ze179]
              refine g_istore (ls' := [_, _, _, _, _, _, _, _, _]) dX11_least_182 (by decide) rfl rfl ?_
              refine g_iconst (v := 0) dX11_least_184 (by decide) ?_
              refine g_istore (ls' := [_, _, _, _, _, _, _, _, _]) dX11_least_185 (by decide) rfl rfl ?_
              refine l3_X11_least (f0 := A.1) (R2 := (aLook A).2) (B := (lsB A sg ws d m).2) g3 g1 (by omega) sg ws d _ (fun σ' S' h1 h2 => ⟨_, rfl, rfl, S', h1, h2⟩) _ 0 σ S3 _ (Nat.zero_add _) hM hR3 (by rw [e2 39 (by decide)]; exact q1) (fun i t ht => ?_)
              rw [e3 35 (by decide), e3 36 (by decide), e4]
              exact q3 i t ht
            · exact absurd ((nI_eq (b := 1000) (by omega) (by decide)).mp zc170) he
        refine g_aload_n (i := 0) dX11_least_132 rfl rfl ?_
        refine g_sipush (v := 1000) dX11_least_133 (by decide) ?_
        refine gm_puti hM (k := 38) dX11_least_136 flX11_265 fp9_38 (by decide) (fun σ hM => ?_)
        refine g_iconst (v := 1) dX11_least_139 (by decide) ?_
        refine g_istore (ls' := [_, _, _, _, _, _, _, _, _]) dX11_least_140 (by decide) rfl rfl ?_
        exact l2_X11_least (S0 := ui S1 38 1000) rfl hL hm sg ws d (fun σ' S' v h => t163 σ' S' v (by rw [← eB]; exact h)) m 0 σ (ui S1 38 1000) (by omega) ⟨hM, sT.rf _, fun i s hs => by simp at hs, hrow, hBS⟩
      refine g_iload dX11_least_0 rfl ?_
      refine g_iconst (v := 1) dX11_least_2 (by decide) ?_
      refine g_icmp_lt (tgt := 24) dX11_least_3 (by decide) (fun zc3 => ?_) (fun zc3 => ?_)
      · exact absurd zc3 hh.1.1
      · refine g_iload dX11_least_6 rfl ?_
        refine g_iconst (v := 3) dX11_least_8 (by decide) ?_
        refine g_icmp_gt (tgt := 24) dX11_least_9 (by decide) (fun zc9 => ?_) (fun zc9 => ?_)
        · exact absurd zc9 (Int32.not_lt.mpr hh.1.2)
        · refine g_aload_n (i := 0) dX11_least_12 rfl rfl ?_
          refine g_bipush (v := 8) dX11_least_13 (by decide) ?_
          refine g_iload_n (i := 1) dX11_least_15 rfl rfl ?_
          refine g_iload_n (i := 2) dX11_least_16 rfl rfl ?_
          refine g_lload_n (i := 3) dX11_least_17 rfl rfl ?_
          refine g_callVi (My := mX11_isAsking) [_, _, _, _] dX11_least_18 lkX11_222 mvX11_isAsking rfl hM.1 rfl (c_X11_isAsking hM _ _ _ _) (by decide) (by decide) (by decide) rfl (Nat.le_of_ble_eq_true rfl) (fun zr18 σ zh18 => ?_)
          obtain ⟨rfl, rfl⟩ := zh18
          refine g_if_ne (tgt := 26) dX11_least_21 (by decide) (fun zc21 => ?_) (fun zc21 => ?_)
          · refine g_aload_n (i := 0) dX11_least_26 rfl rfl ?_
            refine gm_get hM (k := 2) dX11_least_27 flX11_118 rfl ?_
            refine g_toi (nI A.1.length) h2 ?_
            refine g_bipush (v := 60) dX11_least_30 (by decide) ?_
            refine g_icmp_eq (tgt := 44) dX11_least_32 (by decide) (fun zc32 => ?_) (fun zc32 => ?_)
            · exact absurd ((nI_eq (b := 60) (by omega) (by decide)).mp zc32) hf1
            · refine g_aload_n (i := 0) dX11_least_35 rfl rfl ?_
              refine gm_get hM (k := 28) dX11_least_36 flX11_292 rfl ?_
              refine g_toi (nI A.2.2.2.2.2) h28 ?_
              refine g_bipush (v := 12) dX11_least_39 (by decide) ?_
              refine g_icmp_ne (tgt := 47) dX11_least_41 (by decide) (fun zc41 => ?_) (fun zc41 => ?_)
              · refine g_aload_n (i := 0) dX11_least_47 rfl rfl ?_
                refine g_dup dX11_least_48 rfl ?_
                refine gm_get hM (k := 28) dX11_least_49 flX11_292 rfl ?_
                refine g_toi (nI A.2.2.2.2.2) h28 ?_
                refine g_iconst (v := 1) dX11_least_52 (by decide) ?_
                refine g_iadd dX11_least_53 ?_
                rw [nI_1]
                refine gm_puti hM (k := 28) dX11_least_54 flX11_292 fp9_28 (by decide) (fun σ hM => ?_)
                refine g_iconst (v := 0) dX11_least_57 (by decide) ?_
                refine g_istore (ls' := [_, _, _, _, _, _, _, _, _]) dX11_least_58 (by decide) rfl rfl ?_
                exact l1_X11_least (S := ui S 28 (nI (A.2.2.2.2.2 + 1))) hh.2 _ (fun σ' S' v h1 h2 h3 => t132 σ' S' v h1 h2 h3) 256 0 σ _ (by omega) hM ⟨fun _ _ => rfl, fun _ _ => rfl, fun _ _ => rfl, rfl⟩ (fun u hu => absurd hu (Nat.not_lt_zero _))
              · exact absurd ((nI_eq (b := 12) (by omega) (by decide)).mp zc41) hf2
          · exact absurd hh.2 (bI_eq0.mp zc21)
  · have hv : sLeast A sg ws d most = (-1, A) := by
      unfold sLeast
      rw [if_neg hh]
    rw [hv]
    refine g_iload dX11_least_0 rfl ?_
    refine g_iconst (v := 1) dX11_least_2 (by decide) ?_
    refine g_icmp_lt (tgt := 24) dX11_least_3 (by decide) (fun zc3 => ?_) (fun zc3 => ?_)
    · refine g_iconst (v := (-1)) dX11_least_24 (by decide) ?_
      refine g_iret dX11_least_25 rfl ?_
      exact ⟨_, rfl, rfl, S, hM, hR⟩
    · refine g_iload dX11_least_6 rfl ?_
      refine g_iconst (v := 3) dX11_least_8 (by decide) ?_
      refine g_icmp_gt (tgt := 24) dX11_least_9 (by decide) (fun zc9 => ?_) (fun zc9 => ?_)
      · refine g_iconst (v := (-1)) dX11_least_24 (by decide) ?_
        refine g_iret dX11_least_25 rfl ?_
        exact ⟨_, rfl, rfl, S, hM, hR⟩
      · refine g_aload_n (i := 0) dX11_least_12 rfl rfl ?_
        refine g_bipush (v := 8) dX11_least_13 (by decide) ?_
        refine g_iload_n (i := 1) dX11_least_15 rfl rfl ?_
        refine g_iload_n (i := 2) dX11_least_16 rfl rfl ?_
        refine g_lload_n (i := 3) dX11_least_17 rfl rfl ?_
        refine g_callVi (My := mX11_isAsking) [_, _, _, _] dX11_least_18 lkX11_222 mvX11_isAsking rfl hM.1 rfl (c_X11_isAsking hM _ _ _ _) (by decide) (by decide) (by decide) rfl (Nat.le_of_ble_eq_true rfl) (fun zr18 σ zh18 => ?_)
        obtain ⟨rfl, rfl⟩ := zh18
        refine g_if_ne (tgt := 26) dX11_least_21 (by decide) (fun zc21 => ?_) (fun zc21 => ?_)
        · exact absurd ⟨⟨zc3, Int32.not_lt.mp zc9⟩, bI_ne0.mp zc21⟩ hh
        · refine g_iconst (v := (-1)) dX11_least_24 (by decide) ?_
          refine g_iret dX11_least_25 rfl ?_
          exact ⟨_, rfl, rfl, S, hM, hR⟩
end CMleast4
