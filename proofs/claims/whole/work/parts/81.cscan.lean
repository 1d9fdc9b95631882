/-! the class's search, pure: the flat list of choices, what is skipped -/
abbrev cT : Type := Nat × Nat × Nat
def nyC (i : Nat) : Nat := if isOp (nI i) then 3 else 4
noncomputable def lY (tl : Nat → Int64) (i x : Nat) : List Nat → List cT
  | [] => []
  | y :: t => by
    classical
    exact if pY tl i y then (i, x, y) :: lY tl i x t else lY tl i x t
theorem lY_t {tl : Nat → Int64} {i x y : Nat} {t : List Nat} (h : pY tl i y) : lY tl i x (y :: t) = (i, x, y) :: lY tl i x t := if_pos h
theorem lY_f {tl : Nat → Int64} {i x y : Nat} {t : List Nat} (h : ¬ pY tl i y) : lY tl i x (y :: t) = lY tl i x t := if_neg h
noncomputable def lX (tl : Nat → Int64) (i : Nat) : List Nat → List cT
  | [] => []
  | x :: t => lY tl i x (List.range' 0 (nyC i)) ++ lX tl i t
noncomputable def lK (tl : Nat → Int64) : List Nat → List cT
  | [] => []
  | i :: t => lX tl i (List.range' 0 3) ++ lK tl t
noncomputable def chL (tl : Nat → Int64) : List cT := lK tl (List.range' 0 13)
noncomputable def stT (tl : Nat → Int64) (t : cT) : aSt := mkS tl t.1 t.2.1 t.2.2
def okd (d : Nat) (t : cT) : Prop := t.2.1 ≤ d ∧ (isOp (nI t.1) → t.2.2 ≤ d)
noncomputable def fL (g : List aSt → bB → bB) (tl : Nat → Int64) (pre : List aSt) : List cT → bB → bB
  | [], b => b
  | t :: r, b => by
    classical
    exact fL g tl pre r (if okd pre.length t then g (pre ++ [stT tl t]) b else b)
section Scan
variable {g : List aSt → bB → bB} {tl : Nat → Int64} {pre : List aSt}
theorem fL_t {t : cT} {r : List cT} {b : bB} (h : okd pre.length t) : fL g tl pre (t :: r) b = fL g tl pre r (g (pre ++ [stT tl t]) b) := by
  show fL g tl pre r _ = _
  rw [if_pos h]
theorem fL_f {t : cT} {r : List cT} {b : bB} (h : ¬ okd pre.length t) : fL g tl pre (t :: r) b = fL g tl pre r b := by
  show fL g tl pre r _ = _
  rw [if_neg h]
theorem fL_app : ∀ (L M : List cT) (b : bB), fL g tl pre (L ++ M) b = fL g tl pre M (fL g tl pre L b) := by
  intro L
  induction L with
  | nil => intro M b; rfl
  | cons t r ih => intro M b; exact ih M _
theorem fL_no : ∀ (L : List cT) (b : bB), (∀ t ∈ L, ¬ okd pre.length t) → fL g tl pre L b = b := by
  intro L
  induction L with
  | nil => intro b _; rfl
  | cons t r ih =>
    intro b h
    rw [fL_f (h t List.mem_cons_self), ih b (fun q hq => h q (List.mem_cons_of_mem _ hq))]
theorem mem_lY {i x : Nat} {t : cT} : ∀ (L : List Nat), t ∈ lY tl i x L → t.1 = i ∧ t.2.1 = x ∧ t.2.2 ∈ L ∧ pY tl i t.2.2 := by
  intro L
  induction L with
  | nil => intro h; cases h
  | cons y r ih =>
    intro h
    by_cases hp : pY tl i y
    · rw [lY_t hp] at h
      rcases List.mem_cons.mp h with e | h
      · subst e
        exact ⟨rfl, rfl, List.mem_cons_self, hp⟩
      · obtain ⟨a, b, c, d⟩ := ih h
        exact ⟨a, b, List.mem_cons_of_mem _ c, d⟩
    · rw [lY_f hp] at h
      obtain ⟨a, b, c, d⟩ := ih h
      exact ⟨a, b, List.mem_cons_of_mem _ c, d⟩
theorem mem_lX {i : Nat} {t : cT} : ∀ (L : List Nat), t ∈ lX tl i L → t.1 = i ∧ t.2.1 ∈ L ∧ t.2.2 < nyC i ∧ pY tl i t.2.2 := by
  intro L
  induction L with
  | nil => intro h; cases h
  | cons x r ih =>
    intro h
    rcases List.mem_append.mp h with h | h
    · obtain ⟨a, b, c, d⟩ := mem_lY _ h
      exact ⟨a, by rw [b]; exact List.mem_cons_self, by have := (List.mem_range'_1.mp c).2; omega, d⟩
    · obtain ⟨a, b, c⟩ := ih h
      exact ⟨a, List.mem_cons_of_mem _ b, c⟩
theorem mem_lK {t : cT} : ∀ (L : List Nat), t ∈ lK tl L → t.1 ∈ L ∧ t.2.1 < 3 ∧ t.2.2 < nyC t.1 ∧ pY tl t.1 t.2.2 := by
  intro L
  induction L with
  | nil => intro h; cases h
  | cons i r ih =>
    intro h
    rcases List.mem_append.mp h with h | h
    · obtain ⟨a, b, c, d⟩ := mem_lX _ h
      exact ⟨by rw [a]; exact List.mem_cons_self, by have := (List.mem_range'_1.mp b).2; omega, by rw [a]; exact c, by rw [a]; exact d⟩
    · obtain ⟨a, b, c⟩ := ih h
      exact ⟨List.mem_cons_of_mem _ a, b, c⟩
theorem mem_chL {t : cT} (h : t ∈ chL tl) : t.1 < 13 ∧ t.2.1 < 3 ∧ t.2.2 < nyC t.1 ∧ pY tl t.1 t.2.2 := by
  obtain ⟨a, b⟩ := mem_lK _ h
  exact ⟨by have := (List.mem_range'_1.mp a).2; omega, b⟩
theorem fL_lY1 {i x : Nat} (hx : x ≤ pre.length) : ∀ (L : List Nat) (b : bB), (∀ y ∈ L, isOp (nI i) → y ≤ pre.length) → fL g tl pre (lY tl i x L) b = fY g tl pre i x L b := by
  intro L
  induction L with
  | nil => intro b _; rfl
  | cons y r ih =>
    intro b h
    have ih' := fun b => ih b (fun q hq => h q (List.mem_cons_of_mem _ hq))
    by_cases hp : pY tl i y
    · rw [lY_t hp, fY_t hp, fL_t ⟨hx, h y List.mem_cons_self⟩, ih']
      rfl
    · rw [lY_f hp, fY_f hp, ih']
theorem lY_app {i x : Nat} : ∀ (L M : List Nat), lY tl i x (L ++ M) = lY tl i x L ++ lY tl i x M := by
  intro L M
  induction L with
  | nil => rfl
  | cons y r ih =>
    by_cases hp : pY tl i y
    · rw [List.cons_append, lY_t hp, lY_t hp, ih]; rfl
    · rw [List.cons_append, lY_f hp, lY_f hp, ih]
theorem lX_app {i : Nat} : ∀ (L M : List Nat), lX tl i (L ++ M) = lX tl i L ++ lX tl i M := by
  intro L M
  induction L with
  | nil => rfl
  | cons y r ih =>
    show lY tl i y _ ++ lX tl i (r ++ M) = (lY tl i y _ ++ lX tl i r) ++ lX tl i M
    rw [ih, List.append_assoc]
theorem rg_split {a b : Nat} (h : a ≤ b) : List.range' 0 b = List.range' 0 a ++ List.range' a (b - a) := by
  have := @List.range'_append_1 0 a (b - a)
  rw [Nat.zero_add, Nat.add_sub_cancel' h] at this
  exact this.symm
theorem fL_lY {i x : Nat} (hx : x ≤ pre.length) (hd : pre.length < 3) (b : bB) : fL g tl pre (lY tl i x (List.range' 0 (nyC i))) b = fY g tl pre i x (List.range' 0 (ny i pre.length)) b := by
  by_cases ho : isOp (nI i)
  · rw [nyC, if_pos ho, ny, if_pos ho, rg_split (show pre.length + 1 ≤ 3 by omega), lY_app, fL_app, fL_lY1 hx (List.range' 0 (pre.length + 1)), fL_no]
    · intro t ht hk
      obtain ⟨e1, e2, e3, e4⟩ := mem_lY _ ht
      have := (List.mem_range'_1.mp e3).1
      have := hk.2 (by rw [e1]; exact ho)
      omega
    · intro y hy _
      have := (List.mem_range'_1.mp hy).2
      omega
  · rw [nyC, if_neg ho, ny, if_neg ho, fL_lY1 hx]
    exact fun y _ z => absurd z ho
theorem fL_lX1 {i : Nat} (hd : pre.length < 3) : ∀ (L : List Nat) (b : bB), (∀ x ∈ L, x ≤ pre.length) → fL g tl pre (lX tl i L) b = fX g tl pre i L b := by
  intro L
  induction L with
  | nil => intro b _; rfl
  | cons x r ih =>
    intro b h
    show fL g tl pre (lY tl i x _ ++ lX tl i r) b = fX g tl pre i r (fY g tl pre i x _ b)
    rw [fL_app, fL_lY (h x List.mem_cons_self) hd, ih _ (fun q hq => h q (List.mem_cons_of_mem _ hq))]
theorem fL_lX {i : Nat} (hd : pre.length < 3) (b : bB) : fL g tl pre (lX tl i (List.range' 0 3)) b = fX g tl pre i (List.range' 0 (pre.length + 1)) b := by
  rw [rg_split (show pre.length + 1 ≤ 3 by omega), lX_app, fL_app, fL_lX1 hd (List.range' 0 (pre.length + 1)), fL_no]
  · intro t ht hk
    obtain ⟨e1, e2, e3⟩ := mem_lX _ ht
    have := (List.mem_range'_1.mp e2).1
    have := hk.1
    omega
  · intro x hx
    have := (List.mem_range'_1.mp hx).2
    omega
theorem fL_lK (hd : pre.length < 3) : ∀ (L : List Nat) (b : bB), fL g tl pre (lK tl L) b = fK g tl pre L b := by
  intro L
  induction L with
  | nil => intro b; rfl
  | cons i r ih =>
    intro b
    show fL g tl pre (lX tl i _ ++ lK tl r) b = fK g tl pre r (fX g tl pre i _ b)
    rw [fL_app, fL_lX hd, ih]
theorem len_lY {i x : Nat} : ∀ (L : List Nat), (lY tl i x L).length ≤ L.length := by
  intro L
  induction L with
  | nil => exact Nat.le_refl _
  | cons y r ih =>
    by_cases hp : pY tl i y
    · rw [lY_t hp]; exact Nat.succ_le_succ ih
    · rw [lY_f hp]; exact Nat.le_succ_of_le ih
theorem len_lX {i : Nat} : ∀ (L : List Nat), (lX tl i L).length ≤ L.length * nyC i := by
  intro L
  induction L with
  | nil => exact Nat.zero_le _
  | cons x r ih =>
    show (lY tl i x _ ++ lX tl i r).length ≤ (r.length + 1) * nyC i
    rw [List.length_append, Nat.succ_mul]
    have := len_lY (tl := tl) (i := i) (x := x) (List.range' 0 (nyC i))
    rw [List.length_range'] at this
    omega
theorem len_lK : ∀ (L : List Nat), (lK tl L).length ≤ (L.map fun i => 3 * nyC i).sum := by
  intro L
  induction L with
  | nil => exact Nat.zero_le _
  | cons i r ih =>
    show (lX tl i _ ++ lK tl r).length ≤ 3 * nyC i + (r.map fun i => 3 * nyC i).sum
    rw [List.length_append]
    have := len_lX (tl := tl) (i := i) (List.range' 0 3)
    rw [List.length_range'] at this
    omega
theorem len_chL : (chL tl).length ≤ 144 := Nat.le_trans (len_lK _) (by decide)
end Scan
section Scan2
variable {Rt : List aSt → Prop} {pr : Nat → Nat} {tl : Nat → Int64}
theorem cN_mk (f : List aSt) {i x y : Nat} (hi : i < 13) : cN pr (f ++ [mkS tl i x y]) = cN pr f + pr i := by
  rw [cN_app]
  show cN pr f + pr (nI i).toNatClampNeg = _
  rw [nI_clamp (by omega)]
theorem sc_skip2 (hpr : ∀ i, i < 13 → 1 ≤ pr i) : ∀ (r : Nat) (pre : List aSt) (b : bB), b.1 ≤ cN pr pre + r → sc Rt pr tl r pre b = b := by
  intro r
  induction r with
  | zero => intro pre b h; exact sc_skip Rt pr tl 0 pre b h
  | succ r ih =>
    intro pre b h
    refine fK_in (P := fun b' => b' = b) _ _ (fun i hi x _ y _ _ b' hb' => ?_) rfl
    subst hb'
    have hi13 : i < 13 := by have := (List.mem_range'_1.mp hi).2; omega
    exact ih _ _ (by rw [cN_mk pre hi13]; have := hpr i hi13; omega)
theorem sc_le : ∀ (r : Nat) (pre : List aSt) (b : bB), (sc Rt pr tl r pre b).1 ≤ b.1 := by
  intro r
  induction r with
  | zero =>
    intro pre b
    show (acN Rt pr pre b).1 ≤ b.1
    unfold acN
    split
    · rename_i h
      exact Nat.le_of_lt h.1
    · exact Nat.le_refl _
  | succ r ih =>
    intro pre b
    exact fK_in (P := fun b' => b'.1 ≤ b.1) _ _ (fun i hi x _ y _ _ b' hb' => Nat.le_trans (ih _ _) hb') (Nat.le_refl _)
theorem fK_le {g : List aSt → bB → bB} (hg : ∀ f b, (g f b).1 ≤ b.1) (pre : List aSt) (L : List Nat) (b : bB) : (fK g tl pre L b).1 ≤ b.1 := fK_in (P := fun b' => b'.1 ≤ b.1) _ _ (fun i hi x _ y _ _ b' hb' => Nat.le_trans (hg _ _) hb') (Nat.le_refl _)
theorem fX_le {g : List aSt → bB → bB} (hg : ∀ f b, (g f b).1 ≤ b.1) (pre : List aSt) (i : Nat) (L : List Nat) (b : bB) : (fX g tl pre i L b).1 ≤ b.1 := fX_in (P := fun b' => b'.1 ≤ b.1) _ _ (fun x _ y _ _ b' hb' => Nat.le_trans (hg _ _) hb') (Nat.le_refl _)
theorem fY_le {g : List aSt → bB → bB} (hg : ∀ f b, (g f b).1 ≤ b.1) (pre : List aSt) (i x : Nat) (L : List Nat) (b : bB) : (fY g tl pre i x L b).1 ≤ b.1 := fY_in (P := fun b' => b'.1 ≤ b.1) _ _ (fun y _ _ b' hb' => Nat.le_trans (hg _ _) hb') (Nat.le_refl _)
theorem fY_hit {g : List aSt → bB → bB} (hg : ∀ f b, (g f b).1 ≤ b.1) {pre : List aSt} {i x y B : Nat} (hp : pY tl i y) (hB : ∀ b, (g (pre ++ [mkS tl i x y]) b).1 ≤ B) : ∀ (L : List Nat) (b : bB), y ∈ L → (fY g tl pre i x L b).1 ≤ B := by
  intro L
  induction L with
  | nil => intro b h; cases h
  | cons z r ih =>
    intro b h
    rcases List.mem_cons.mp h with e | h
    · subst e
      rw [fY_t hp]
      exact Nat.le_trans (fY_le hg _ _ _ _ _) (hB b)
    · by_cases hz : pY tl i z
      · rw [fY_t hz]; exact ih _ h
      · rw [fY_f hz]; exact ih _ h
theorem fX_hit {g : List aSt → bB → bB} (hg : ∀ f b, (g f b).1 ≤ b.1) {pre : List aSt} {i x y B : Nat} (hp : pY tl i y) (hy : y < ny i pre.length) (hB : ∀ b, (g (pre ++ [mkS tl i x y]) b).1 ≤ B) : ∀ (L : List Nat) (b : bB), x ∈ L → (fX g tl pre i L b).1 ≤ B := by
  intro L
  induction L with
  | nil => intro b h; cases h
  | cons z r ih =>
    intro b h
    show (fX g tl pre i r (fY g tl pre i z _ b)).1 ≤ B
    rcases List.mem_cons.mp h with e | h
    · subst e
      exact Nat.le_trans (fX_le hg _ _ _ _) (fY_hit hg hp hB _ _ (List.mem_range'_1.mpr ⟨Nat.zero_le _, by omega⟩))
    · exact ih _ h
theorem fK_hit {g : List aSt → bB → bB} (hg : ∀ f b, (g f b).1 ≤ b.1) {pre : List aSt} {i x y B : Nat} (hp : pY tl i y) (hy : y < ny i pre.length) (hx : x ≤ pre.length) (hB : ∀ b, (g (pre ++ [mkS tl i x y]) b).1 ≤ B) : ∀ (L : List Nat) (b : bB), i ∈ L → (fK g tl pre L b).1 ≤ B := by
  intro L
  induction L with
  | nil => intro b h; cases h
  | cons z r ih =>
    intro b h
    show (fK g tl pre r (fX g tl pre z _ b)).1 ≤ B
    rcases List.mem_cons.mp h with e | h
    · subst e
      exact Nat.le_trans (fK_le hg _ _ _) (fX_hit hg hp hy hB _ _ (List.mem_range'_1.mpr ⟨Nat.zero_le _, by omega⟩))
    · exact ih _ h
theorem sc_min : ∀ (r : Nat) (pre t : List aSt) (b : bB), t.length = r → gdF tl (pre ++ t) → Rt (pre ++ t) → (sc Rt pr tl r pre b).1 ≤ cN pr (pre ++ t) := by
  intro r
  induction r with
  | zero =>
    intro pre t b ht hg hr
    have : t = [] := List.length_eq_zero_iff.mp ht
    subst this
    rw [List.append_nil] at hr ⊢
    show (acN Rt pr pre b).1 ≤ _
    unfold acN
    split
    · exact Nat.le_refl _
    · rename_i h
      exact Nat.not_lt.mp (fun z => h ⟨z, hr⟩)
  | succ r ih =>
    intro pre t b ht hg hr
    cases t with
    | nil => cases ht
    | cons s t =>
      obtain ⟨c, x, y, hc, hx, hy, hp, rfl⟩ := hg pre.length s (by simp)
      have e : pre ++ mkS tl c x y :: t = (pre ++ [mkS tl c x y]) ++ t := by simp
      rw [e] at hg hr ⊢
      exact fK_hit (fun f b => sc_le r f b) hp hy hx (fun b => ih _ t b (by simpa using ht) hg hr) _ _ (List.mem_range'_1.mpr ⟨Nat.zero_le _, by omega⟩)
theorem scAll_min : ∀ (n : Nat) (f : List aSt), gdF tl f → 1 ≤ f.length → f.length ≤ n → Rt f → (scAll Rt pr tl n).1 ≤ cN pr f := by
  intro n
  induction n with
  | zero => intro f _ h1 h2; omega
  | succ n ih =>
    intro f hg h1 h2 hr
    by_cases e : f.length = n + 1
    · have := sc_min (Rt := Rt) (pr := pr) (tl := tl) (n + 1) [] f (scAll Rt pr tl n) e hg hr
      exact this
    · exact Nat.le_trans (sc_le (n + 1) [] _) (ih f hg h1 (by omega) hr)
/-- what no shorter right form costs less than -/
def shB (Rt : List aSt → Prop) (pr : Nat → Nat) (tl : Nat → Int64) (n B : Nat) : Prop := ∀ f, gdF tl f → 1 ≤ f.length → f.length < n → Rt f → B ≤ cN pr f
theorem mkS_x (tl : Nat → Int64) (c : Nat) {x : Nat} (y : Nat) (hx : x < 2 ^ 31) : (mkS tl c x y).2.1.toNatClampNeg = x := nI_clamp hx
theorem opA_mk {f : List aSt} {w : Int32} {v : Int64} {k c x y : Nat} (h : f[k]? = some (mkS tl c x y)) (hx : x < 2 ^ 31) (hy : y < 2 ^ 31) : opA w f v (k + 1) (k + 1) = mAp (nI c) (opA w f v k x) (if isOp (nI c) then opA w f v k y else t8 tl y) w := by
  rw [opA_s h, mkS_x tl c y hx]
  show mAp (nI c) _ (if isOp (nI c) then _ else yOfV tl (nI c) y) w = _
  by_cases ho : isOp (nI c)
  · rw [if_pos ho, if_pos ho]
    show mAp _ _ (opA w f v k (yOfV tl (nI c) y).toInt32.toNatClampNeg) w = _
    rw [yOfV, if_pos ho, Int32.toInt32_toInt64, nI_clamp hy]
  · rw [if_neg ho, if_neg ho, yOfV, if_neg ho]
end Scan2
/-- an operand that a step takes -/
def tk (k : Nat) (t : cT) : Prop := t.2.1 = k ∨ (isOp (nI t.1) ∧ t.2.2 = k)
def gdT (tl : Nat → Int64) (k : Nat) (t : cT) : Prop := t.1 ≤ 12 ∧ t.2.1 ≤ k ∧ t.2.2 < ny t.1 k ∧ pY tl t.1 t.2.2
theorem gdT.gd {tl : Nat → Int64} {k : Nat} {t : cT} (h : gdT tl k t) : gdS tl k (stT tl t) := ⟨t.1, t.2.1, t.2.2, h.1, h.2.1, h.2.2.1, h.2.2.2, rfl⟩
theorem ny_lt {i k : Nat} (hk : k < 3) {y : Nat} (h : y < ny i k) : y < 4 := by
  unfold ny at h
  split at h <;> omega
theorem ny_op {i k y : Nat} (h : y < ny i k) (ho : isOp (nI i)) : y ≤ k := by
  unfold ny at h
  rw [if_pos ho] at h
  omega
theorem ny_of {i k y : Nat} (h4 : y < 4) (h : isOp (nI i) → y ≤ k) : y < ny i k := by
  unfold ny
  split
  · rename_i ho
    have := h ho
    omega
  · exact h4
theorem op0 (w : Int32) (f f' : List aSt) (v : Int64) (k k' : Nat) : opA w f v k 0 = opA w f' v k' 0 := by
  rw [opA_le w f v (Nat.zero_le k), opA_le w f' v (Nat.zero_le k')]
  rfl
theorem gdF1 {tl : Nat → Int64} {a : cT} (h : gdT tl 0 a) : gdF tl [stT tl a] := by
  intro k s hs
  match k, hs with
  | 0, hs => cases hs; exact h.gd
theorem gdF2 {tl : Nat → Int64} {a b : cT} (h : gdT tl 0 a) (h' : gdT tl 1 b) : gdF tl [stT tl a, stT tl b] := by
  intro k s hs
  match k, hs with
  | 0, hs => cases hs; exact h.gd
  | 1, hs => cases hs; exact h'.gd
theorem gdT.lo {tl : Nat → Int64} {k : Nat} {t : cT} (h : gdT tl (k + 1) t) (hk : k < 2) (hn : ¬ tk (k + 1) t) : gdT tl k t := by
  obtain ⟨h1, h2, h3, h4⟩ := h
  refine ⟨h1, ?_, ny_of (ny_lt (by omega) h3) (fun ho => ?_), h4⟩
  · have : ¬ t.2.1 = k + 1 := fun e => hn (Or.inl e)
    omega
  · have := ny_op h3 ho
    have : ¬ t.2.2 = k + 1 := fun e => hn (Or.inr ⟨ho, e⟩)
    omega
theorem cN_c (pr : Nat → Nat) {tl : Nat → Int64} {t : cT} (h : t.1 ≤ 12) (f : List aSt) : cN pr (stT tl t :: f) = pr t.1 + cN pr f := by
  show ((stT tl t :: f).map fun s => pr s.1.toNatClampNeg).sum = _
  rw [List.map_cons, List.sum_cons]
  show pr (nI t.1).toNatClampNeg + _ = _
  rw [nI_clamp (by omega)]
  rfl
/-- two steps, the first idle -/
theorem idle2 {tl : Nat → Int64} {pr : Nat → Nat} {cn : Nat → Prop} {dq : Nat → Int64} {B : Nat} (hpr : ∀ i, i < 13 → 1 ≤ pr i) {a b : cT} (ha : gdT tl 0 a) (hb : gdT tl 1 b) (hn : ¬ tk 1 b) (hs : shB (rtF cn dq) pr tl 2 B) (hr : rtF cn dq [stT tl a, stT tl b]) : B ≤ cN pr [stT tl a, stT tl b] := by
  have hb' := hb.lo (by decide) hn
  have := hs [stT tl b] (gdF1 hb') (by simp) (by simp) (fun v hv hc => ?_)
  · rw [cN_c pr ha.1]
    omega
  · rw [← hr v hv hc]
    show opA 8 [stT tl b] (lN v) (0 + 1) (0 + 1) = opA 8 [stT tl a, stT tl b] (lN v) (1 + 1) (1 + 1)
    have hx := hb'.2.1
    have hy := ny_lt (by decide) hb'.2.2.1
    rw [opA_mk (tl := tl) (c := b.1) (x := b.2.1) (y := b.2.2) rfl (by omega) (by omega), opA_mk (tl := tl) (c := b.1) (x := b.2.1) (y := b.2.2) rfl (by omega) (by omega)]
    have e0 : b.2.1 = 0 := by omega
    rw [e0, op0 8 [stT tl b] [stT tl a, stT tl b] _ 0 1]
    by_cases ho : isOp (nI b.1)
    · have e1 : b.2.2 = 0 := by have := ny_op hb'.2.2.1 ho; omega
      rw [if_pos ho, if_pos ho, e1, op0 8 [stT tl b] [stT tl a, stT tl b] _ 0 1]
    · rw [if_neg ho, if_neg ho]
/-- three steps, the second idle -/
theorem idle3b {tl : Nat → Int64} {pr : Nat → Nat} {cn : Nat → Prop} {dq : Nat → Int64} {B : Nat} (hpr : ∀ i, i < 13 → 1 ≤ pr i) {a b c : cT} (ha : gdT tl 0 a) (hb : gdT tl 1 b) (hc : gdT tl 2 c) (hn : ¬ tk 2 c) (hs : shB (rtF cn dq) pr tl 3 B) (hr : rtF cn dq [stT tl a, stT tl b, stT tl c]) : B ≤ cN pr [stT tl a, stT tl b, stT tl c] := by
  have hc' := hc.lo (by decide) hn
  have := hs [stT tl a, stT tl c] (gdF2 ha hc') (by simp) (by simp) (fun v hv hcv => ?_)
  · rw [cN_c pr ha.1, cN_c pr hb.1]
    rw [cN_c pr ha.1] at this
    omega
  · rw [← hr v hv hcv]
    show opA 8 [stT tl a, stT tl c] (lN v) (1 + 1) (1 + 1) = opA 8 [stT tl a, stT tl b, stT tl c] (lN v) (2 + 1) (2 + 1)
    have hx := hc'.2.1
    have hy := ny_lt (by decide) hc'.2.2.1
    have key : ∀ i, i ≤ 1 → opA 8 [stT tl a, stT tl c] (lN v) 1 i = opA 8 [stT tl a, stT tl b, stT tl c] (lN v) 2 i := by
      intro i hi
      rw [show opA 8 [stT tl a, stT tl b, stT tl c] (lN v) 2 i = opA 8 [stT tl a, stT tl b, stT tl c] (lN v) 1 i from opA_lo hi]
      rw [show [stT tl a, stT tl c] = [stT tl a] ++ [stT tl c] from rfl, show [stT tl a, stT tl b, stT tl c] = [stT tl a] ++ [stT tl b, stT tl c] from rfl, opA_app 8 _ _ _ (by simp), opA_app 8 _ _ _ (by simp)]
    rw [opA_mk (tl := tl) (c := c.1) (x := c.2.1) (y := c.2.2) rfl (by omega) (by omega), opA_mk (tl := tl) (c := c.1) (x := c.2.1) (y := c.2.2) rfl (by omega) (by omega), key _ hx]
    by_cases ho : isOp (nI c.1)
    · rw [if_pos ho, if_pos ho, key _ (ny_op hc'.2.2.1 ho)]
    · rw [if_neg ho, if_neg ho]
/-- three steps, the first idle -/
theorem idle3a {tl : Nat → Int64} {pr : Nat → Nat} {cn : Nat → Prop} {dq : Nat → Int64} {B : Nat} (hpr : ∀ i, i < 13 → 1 ≤ pr i) {a b c : cT} (ha : gdT tl 0 a) (hb : gdT tl 1 b) (hc : gdT tl 2 c) (hn : ¬ tk 1 b) (hn' : ¬ tk 1 c) (hs : shB (rtF cn dq) pr tl 3 B) (hr : rtF cn dq [stT tl a, stT tl b, stT tl c]) : B ≤ cN pr [stT tl a, stT tl b, stT tl c] := by
  have hb' := hb.lo (by decide) hn
  obtain ⟨cc, cx, cy⟩ := c
  obtain ⟨h1, h2, h3, h4⟩ := hc
  have hy4 := ny_lt (by decide) h3
  have hx1 : ¬ cx = 1 := fun e => hn' (Or.inl e)
  have hy1 : isOp (nI cc) → ¬ cy = 1 := fun ho e => hn' (Or.inr ⟨ho, e⟩)
  have hg : gdT tl 1 (cc, cx - 1, if isOp (nI cc) then cy - 1 else cy) := by
    have h2' : cx ≤ 2 := h2
    refine ⟨h1, by show cx - 1 ≤ 1; omega, ?_, ?_⟩
    · show (if isOp (nI cc) then cy - 1 else cy) < ny cc 1
      refine ny_of (by have : cy < 4 := hy4; split <;> omega) (fun ho => ?_)
      rw [if_pos ho]
      have : cy ≤ 2 := ny_op h3 ho
      omega
    · by_cases ho : isOp (nI cc)
      · exact Or.inl ho
      · show pY tl cc (if isOp (nI cc) then cy - 1 else cy)
        rw [if_neg ho]
        exact h4
  have := hs [stT tl b, stT tl (cc, cx - 1, if isOp (nI cc) then cy - 1 else cy)] (gdF2 hb' hg) (by simp) (by simp) (fun v hv hcv => ?_)
  · have hpa := hpr a.1 (by have := ha.1; omega)
    rw [cN_c pr hb.1, cN_c pr hg.1] at this
    rw [cN_c pr ha.1, cN_c pr hb.1, cN_c pr (t := (cc, cx, cy)) h1]
    have e : (((cc, cx - 1, if isOp (nI cc) then cy - 1 else cy) : cT)).1 = cc := rfl
    rw [e] at this
    show B ≤ pr a.1 + (pr b.1 + (pr cc + _))
    omega
  · rw [← hr v hv hcv]
    generalize hf : [stT tl b, stT tl (cc, cx - 1, if isOp (nI cc) then cy - 1 else cy)] = f
    generalize hf' : [stT tl a, stT tl b, stT tl (cc, cx, cy)] = f'
    have l1 : f.length = 1 + 1 := by rw [← hf]; rfl
    have l2 : f'.length = 2 + 1 := by rw [← hf']; rfl
    rw [l1, l2]
    have hx := hb'.2.1
    have hy := ny_lt (by decide) hb'.2.2.1
    have k1 : opA 8 f (lN v) 1 1 = opA 8 f' (lN v) 2 2 := by
      rw [opA_mk (k := 0) (tl := tl) (c := b.1) (x := b.2.1) (y := b.2.2) (by rw [← hf]; rfl) (by omega) (by omega), opA_mk (k := 1) (tl := tl) (c := b.1) (x := b.2.1) (y := b.2.2) (by rw [← hf']; rfl) (by omega) (by omega)]
      have e0 : b.2.1 = 0 := by omega
      rw [e0, op0 8 f f' _ 0 1]
      by_cases ho : isOp (nI b.1)
      · have e1 : b.2.2 = 0 := by have := ny_op hb'.2.2.1 ho; omega
        rw [if_pos ho, if_pos ho, e1, op0 8 f f' _ 0 1]
      · rw [if_neg ho, if_neg ho]
    have key : ∀ i, i ≤ 2 → ¬ i = 1 → opA 8 f (lN v) 1 (i - 1) = opA 8 f' (lN v) 2 i := by
      intro i hi hi1
      rcases (show i = 0 ∨ i = 2 by omega) with rfl | rfl
      · exact op0 8 f f' _ 1 2
      · exact k1
    have h2' : cx ≤ 2 := h2
    have h4' : cy < 4 := hy4
    rw [opA_mk (k := 1) (tl := tl) (c := cc) (x := cx - 1) (y := if isOp (nI cc) then cy - 1 else cy) (by rw [← hf]; rfl) (by omega) (by split <;> omega), opA_mk (k := 2) (tl := tl) (c := cc) (x := cx) (y := cy) (by rw [← hf']; rfl) (by omega) (by omega), key _ h2' hx1]
    by_cases ho : isOp (nI cc)
    · rw [if_pos ho, if_pos ho, if_pos ho, key _ (ny_op h3 ho) (hy1 ho)]
    · rw [if_neg ho, if_neg ho, if_neg ho]
/-- the bits of the operands a choice takes -/
def us (t : cT) : Int32 := if isOp (nI t.1) then (1 <<< (nI t.2.1 &&& 31)) ||| (1 <<< (nI t.2.2 &&& 31)) else 1 <<< (nI t.2.1 &&& 31)
def idl : List cT → Int32
  | [_] => 2
  | [_, t] => (2 &&& (us t ^^^ -1)) ||| 4
  | _ => 0
theorem us_cases {t : cT} (hx : t.2.1 < 3) (hy : isOp (nI t.1) → t.2.2 < 3) : (∃ x : Nat, x < 3 ∧ t.2.1 = x ∧ ¬ isOp (nI t.1) ∧ us t = 1 <<< (nI x &&& 31)) ∨ (∃ x y : Nat, x < 3 ∧ y < 3 ∧ t.2.1 = x ∧ t.2.2 = y ∧ isOp (nI t.1) ∧ us t = (1 <<< (nI x &&& 31)) ||| (1 <<< (nI y &&& 31))) := by
  by_cases ho : isOp (nI t.1)
  · exact Or.inr ⟨_, _, hx, hy ho, rfl, rfl, ho, if_pos ho⟩
  · exact Or.inl ⟨_, hx, rfl, ho, if_neg ho⟩
theorem us_d1 : ∀ x, x < 3 → ∀ d, d < 3 → ((1 <<< (nI x &&& 31) : Int32) >>> ((nI d + 1) &&& 31) = 0 ↔ x ≤ d) := by decide
theorem us_d2 : ∀ x, x < 3 → ∀ y, y < 3 → ∀ d, d < 3 → (((1 <<< (nI x &&& 31) : Int32) ||| (1 <<< (nI y &&& 31))) >>> ((nI d + 1) &&& 31) = 0 ↔ x ≤ d ∧ y ≤ d) := by decide
theorem us_ok {t : cT} {d : Nat} (hx : t.2.1 < 3) (hy : isOp (nI t.1) → t.2.2 < 3) (hd : d < 3) : us t >>> ((nI d + 1) &&& 31) = 0 ↔ okd d t := by
  rcases us_cases hx hy with ⟨x, h1, h2, h3, h4⟩ | ⟨x, y, h1, h2, h3, h4, h5, h6⟩
  · rw [h4, us_d1 x h1 d hd, okd, h2]
    exact ⟨fun z => ⟨z, fun z' => absurd z' h3⟩, fun z => z.1⟩
  · rw [h6, us_d2 x h1 y h2 d hd, okd, h3, h4]
    exact ⟨fun z => ⟨z.1, fun _ => z.2⟩, fun z => ⟨z.1, z.2 h5⟩⟩
theorem us_n1 : ∀ x, x < 3 → ∀ k, k < 3 → ((1 <<< (nI k &&& 31) : Int32) &&& ((1 <<< (nI x &&& 31) : Int32) ^^^ -1) = 0 ↔ x = k) := by decide
theorem us_n2 : ∀ x, x < 3 → ∀ y, y < 3 → ∀ k, k < 3 → ((1 <<< (nI k &&& 31) : Int32) &&& (((1 <<< (nI x &&& 31) : Int32) ||| (1 <<< (nI y &&& 31))) ^^^ -1) = 0 ↔ x = k ∨ y = k) := by decide
theorem us_tk {t : cT} {k : Nat} (hx : t.2.1 < 3) (hy : isOp (nI t.1) → t.2.2 < 3) (hk : k < 3) : (1 <<< (nI k &&& 31) : Int32) &&& (us t ^^^ -1) = 0 ↔ tk k t := by
  rcases us_cases hx hy with ⟨x, h1, h2, h3, h4⟩ | ⟨x, y, h1, h2, h3, h4, h5, h6⟩
  · rw [h4, us_n1 x h1 k hk, tk, h2]
    exact ⟨fun z => Or.inl z, fun z => z.elim id (fun q => absurd q.1 h3)⟩
  · rw [h6, us_n2 x h1 y h2 k hk, tk, h3, h4]
    exact ⟨fun z => z.elim Or.inl (fun q => Or.inr ⟨h5, q⟩), fun z => z.elim Or.inl (fun q => Or.inr q.2)⟩
theorem idl_next {P : List cT} {t : cT} (hP : P.length < 2) : (idl P &&& (us t ^^^ -1)) ||| ((1 : Int32) <<< ((nI P.length + 1) &&& 31)) = idl (P ++ [t]) := by
  match P, hP with
  | [], _ =>
    show ((0 : Int32) &&& (us t ^^^ -1)) ||| ((1 : Int32) <<< ((nI 0 + 1) &&& 31)) = 2
    rw [Int32.zero_and]
    decide
  | [a], _ =>
    show ((2 : Int32) &&& (us t ^^^ -1)) ||| ((1 : Int32) <<< ((nI 1 + 1) &&& 31)) = (2 &&& (us t ^^^ -1)) ||| 4
    rfl
theorem and_kill {Y Z : Int32} (h2 : 2 &&& Z = 0) (h4 : 4 &&& Z = 0) : ((2 &&& Y) ||| 4) &&& Z = 0 := by
  have e : ((2 &&& Y) ||| 4) &&& Z = ((2 &&& Z) &&& Y) ||| (4 &&& Z) := by
    apply Int32.toBitVec_inj.mp
    simp only [Int32.toBitVec_and, Int32.toBitVec_or]
    ext i hi
    simp only [BitVec.getElem_and, BitVec.getElem_or]
    cases (Int32.toBitVec 2)[i] <;> cases (Int32.toBitVec Y)[i] <;> cases (Int32.toBitVec 4)[i] <;> cases (Int32.toBitVec Z)[i] <;> rfl
  rw [e, h2, h4, Int32.zero_and]
  rfl
def gdP (tl : Nat → Int64) (P : List cT) : Prop := ∀ (k : Nat) (t : cT), P[k]? = some t → gdT tl k t
theorem gdP.gd {tl : Nat → Int64} {P : List cT} (h : gdP tl P) : gdF tl (P.map (stT tl)) := by
  intro k s hs
  rw [List.getElem?_map] at hs
  cases e : P[k]? with
  | none => rw [e] at hs; cases hs
  | some t =>
    rw [e] at hs
    cases hs
    exact (h k t e).gd
theorem gdP.app {tl : Nat → Int64} {P : List cT} {t : cT} (h : gdP tl P) (ht : gdT tl P.length t) : gdP tl (P ++ [t]) := by
  intro k s hs
  by_cases e : k < P.length
  · rw [List.getElem?_append_left e] at hs
    exact h k s hs
  · have hk : k = P.length := by
      have := (List.getElem?_eq_some_iff.mp hs).1
      simp at this
      omega
    subst hk
    simp at hs
    subst hs
    exact ht
theorem gdT.b3 {tl : Nat → Int64} {k : Nat} {t : cT} (h : gdT tl k t) (hk : k < 3) : t.2.1 < 3 ∧ (isOp (nI t.1) → t.2.2 < 3) := ⟨by have := h.2.1; omega, fun ho => by have := ny_op h.2.2.1 ho; omega⟩
theorem leafB {tl : Nat → Int64} {pr : Nat → Nat} {cn : Nat → Prop} {dq : Nat → Int64} {B : Nat} (hpr : ∀ i, i < 13 → 1 ≤ pr i) {P : List cT} {t : cT} (hP : P.length < 3) (hg : gdP tl (P ++ [t])) (hs : shB (rtF cn dq) pr tl (P.length + 1) B) (hr : rtF cn dq ((P ++ [t]).map (stT tl))) (hi : ¬ idl P &&& (us t ^^^ -1) = 0) : B ≤ cN pr ((P ++ [t]).map (stT tl)) := by
  match P, hP with
  | [], _ => exact absurd (by show (0 : Int32) &&& _ = 0; exact Int32.zero_and) hi
  | [a], _ =>
    have ha := hg 0 a rfl
    have ht := hg 1 t rfl
    have hb := ht.b3 (by decide)
    exact idle2 hpr ha ht (fun z => hi ((us_tk hb.1 hb.2 (by decide)).mpr z)) hs hr
  | [a, b], _ =>
    have ha := hg 0 a rfl
    have hb := hg 1 b rfl
    have ht := hg 2 t rfl
    have b3 := hb.b3 (by decide)
    have t3 := ht.b3 (by decide)
    by_cases h2 : tk 2 t
    · have e4 : (4 : Int32) &&& (us t ^^^ -1) = 0 := (us_tk t3.1 t3.2 (by decide)).mpr h2
      by_cases h1 : tk 1 t
      · have e2 : (2 : Int32) &&& (us t ^^^ -1) = 0 := (us_tk t3.1 t3.2 (by decide)).mpr h1
        exact absurd (and_kill e2 e4) hi
      · by_cases h1' : tk 1 b
        · have e2 : (2 : Int32) &&& (us b ^^^ -1) = 0 := (us_tk b3.1 b3.2 (by decide)).mpr h1'
          refine absurd ?_ hi
          show ((2 &&& (us b ^^^ -1)) ||| 4) &&& (us t ^^^ -1) = 0
          rw [e2, show (0 : Int32) ||| 4 = 4 by decide, e4]
        · exact idle3a hpr ha hb ht h1' h1 hs hr
    · exact idle3b hpr ha hb ht h2 hs hr
/-- one choice of the class's loop is one step of the scan -/
theorem okd_gd {tl : Nat → Int64} {d : Nat} {t : cT} (hd : d < 3) (hm : t ∈ chL tl) (hk : okd d t) : gdT tl d t := by
  obtain ⟨h1, h2, h3, h4⟩ := mem_chL hm
  refine ⟨by omega, hk.1, ny_of ?_ hk.2, h4⟩
  unfold nyC at h3
  split at h3 <;> omega
theorem chL_b3 {tl : Nat → Int64} {t : cT} (hm : t ∈ chL tl) : t.2.1 < 3 ∧ (isOp (nI t.1) → t.2.2 < 3) := by
  obtain ⟨h1, h2, h3, h4⟩ := mem_chL hm
  refine ⟨h2, fun ho => ?_⟩
  unfold nyC at h3
  rw [if_pos ho] at h3
  exact h3
