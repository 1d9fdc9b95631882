/-! what KINDS make stays in its width; the search for the LEAST, as a scan -/
theorem uN_xor' (x y : Int64) : uN (x ^^^ y) = uN x ^^^ uN y := UInt64.toNat_xor _ _
theorem uN_lN {n : Nat} (h : n < 18446744073709551616) : uN (lN n) = n := Nat.mod_eq_of_lt h
theorem lN_uN (a : Int64) : lN (uN a) = a := uN_inj (uN_lN (uN_lt a))
theorem sm_64 {a : Int64} (h : uN a < 2147483648) : a.toInt32.toInt64 = a := by
  rw [← lN_uN a, lN_i, nI_l h]
theorem gUshr_le (x : Int64) (s : Int32) : uN (gUshr x s) ≤ uN x := by
  unfold gUshr
  rw [uN_shr]
  exact Nat.div_le_self _ _
theorem ite_lt {q : Prop} [Decidable q] {a b : Int64} {M : Nat} (ha : uN a < M) (hb : uN b < M) : uN (if q then a else b) < M := by
  by_cases h : q
  · rw [if_pos h]; exact ha
  · rw [if_neg h]; exact hb
theorem mAp_lt {k : Int32} {x y : Int64} {N : Nat} (hN : N = 8 ∨ N = 16 ∨ N = 32 ∨ N = 64) (hx : uN x < 2 ^ N) (hy : uN y < 2 ^ N) : uN (mAp k x y (nI N)) < 2 ^ N := by
  have h1 : 1 < 2 ^ N := by rcases hN with rfl | rfl | rfl | rfl <;> decide
  have h0 : uN 0 < 2 ^ N := Nat.lt_of_le_of_lt (show uN 0 ≤ 1 by decide) h1
  have h1' : uN 1 < 2 ^ N := Nat.lt_of_le_of_lt (show uN 1 ≤ 1 by decide) h1
  unfold mAp
  refine ite_lt (Nat.lt_of_le_of_lt (gUshr_le _ _) hx) (ite_lt (mLow_lt _ hN) (ite_lt ?_ (ite_lt ?_ (ite_lt (mLow_lt _ hN) (ite_lt (mLow_lt _ hN) (ite_lt (mLow_lt _ hN) (ite_lt (mLow_lt _ hN) (ite_lt ?_ (ite_lt ?_ (ite_lt (ite_lt hx (mLow_lt _ hN)) (ite_lt (ite_lt h0 h1') (ite_lt hy h0))))))))))))
  · unfold mHiP
    by_cases h64 : nI N = 64
    · rw [if_pos h64]
      have : N = 64 := by rcases hN with rfl | rfl | rfl | rfl <;> first | rfl | exact absurd h64 (by decide)
      subst this
      exact uN_lt _
    · rw [if_neg h64]
      have hlt : N < 64 := by rcases hN with rfl | rfl | rfl | rfl <;> first | decide | exact absurd rfl h64
      rw [uN_gUshr _ hlt, uN_mul]
      refine Nat.div_lt_of_lt_mul (Nat.lt_of_le_of_lt (Nat.mod_le _ _) ?_)
      exact Nat.mul_lt_mul'' hx hy
  · unfold mHiS
    by_cases h64 : nI N < 64
    · rw [if_pos h64]
      exact mLow_lt _ hN
    · rw [if_neg h64]
      have : N = 64 := by rcases hN with rfl | rfl | rfl | rfl <;> first | rfl | exact absurd (by decide) h64
      subst this
      exact uN_lt _
  · rw [uN_xor']
    exact Nat.xor_lt_two_pow hx hy
  · rw [uN_and]
    exact Nat.lt_of_le_of_lt Nat.and_le_left hx
theorem opA_lt {N : Nat} (hN : N = 8 ∨ N = 16 ∨ N = 32 ∨ N = 64) {st : List aSt} (hs : ∀ s ∈ st, ¬ isOp s.1 → uN s.2.2 < 2 ^ N) (v : Int64) : ∀ k i : Nat, uN (opA (nI N) st v k i) < 2 ^ N := by
  have h0 : uN 0 < 2 ^ N := Nat.lt_of_le_of_lt (show uN 0 ≤ 0 by decide) (Nat.two_pow_pos N)
  intro k
  induction k with
  | zero => intro i; exact mLow_lt _ hN
  | succ k ih =>
    intro i
    show uN (if i = k + 1 then _ else _) < _
    split
    · split
      · rename_i s hk
        refine mAp_lt hN (ih _) ?_
        split
        · exact ih _
        · rename_i ho
          exact hs s (List.mem_of_getElem? hk) ho
      · exact h0
    · exact ih i
theorem opA_le (w : Int32) (st : List aSt) (v : Int64) {i : Nat} : ∀ {k : Nat}, i ≤ k → opA w st v k i = opA w st v i i := by
  intro k
  induction k with
  | zero => intro h; rw [Nat.le_zero.mp h]
  | succ k ih =>
    intro h
    by_cases e : i = k + 1
    · rw [e]
    · rw [opA_lo (by omega), ih (by omega)]
theorem opA_app (w : Int32) (st t : List aSt) (v : Int64) : ∀ {k : Nat}, k ≤ st.length → opA w (st ++ t) v k = opA w st v k := by
  intro k
  induction k with
  | zero => intro _; rfl
  | succ k ih =>
    intro h
    funext i
    show (if i = k + 1 then _ else _) = (if i = k + 1 then _ else _)
    rw [ih (by omega), List.getElem?_append_left (by omega)]
noncomputable def mkS (tl : Nat → Int64) (i x y : Nat) : aSt := (nI i, nI x, yOfV tl (nI i) y)
def ny (i k : Nat) : Nat := if isOp (nI i) then k + 1 else 4
def pY (tl : Nat → Int64) (i y : Nat) : Prop := isOp (nI i) ∨ mayB tl (nI i) y
abbrev bB : Type := Nat × List aSt
noncomputable def fY (g : List aSt → bB → bB) (tl : Nat → Int64) (pre : List aSt) (i x : Nat) : List Nat → bB → bB
  | [], b => b
  | y :: t, b => by
    classical
    exact fY g tl pre i x t (if pY tl i y then g (pre ++ [mkS tl i x y]) b else b)
noncomputable def fX (g : List aSt → bB → bB) (tl : Nat → Int64) (pre : List aSt) (i : Nat) : List Nat → bB → bB
  | [], b => b
  | x :: t, b => fX g tl pre i t (fY g tl pre i x (List.range' 0 (ny i pre.length)) b)
noncomputable def fK (g : List aSt → bB → bB) (tl : Nat → Int64) (pre : List aSt) : List Nat → bB → bB
  | [], b => b
  | i :: t, b => fK g tl pre t (fX g tl pre i (List.range' 0 (pre.length + 1)) b)
def cN (pr : Nat → Nat) (f : List aSt) : Nat := (f.map fun s => pr s.1.toNatClampNeg).sum
noncomputable def acN (Rt : List aSt → Prop) (pr : Nat → Nat) (f : List aSt) (b : bB) : bB := by
  classical
  exact if cN pr f < b.1 ∧ Rt f then (cN pr f, f) else b
noncomputable def sc (Rt : List aSt → Prop) (pr : Nat → Nat) (tl : Nat → Int64) : Nat → List aSt → bB → bB
  | 0 => acN Rt pr
  | r + 1 => fun pre b => fK (sc Rt pr tl r) tl pre (List.range' 0 13) b
theorem cN_app (pr : Nat → Nat) (f : List aSt) (s : aSt) : cN pr (f ++ [s]) = cN pr f + pr s.1.toNatClampNeg := by
  simp [cN]
theorem fY_t {g : List aSt → bB → bB} {tl : Nat → Int64} {pre : List aSt} {i x y : Nat} {t : List Nat} {b : bB} (h : pY tl i y) : fY g tl pre i x (y :: t) b = fY g tl pre i x t (g (pre ++ [mkS tl i x y]) b) := by
  show fY g tl pre i x t _ = _
  rw [if_pos h]
theorem fY_f {g : List aSt → bB → bB} {tl : Nat → Int64} {pre : List aSt} {i x y : Nat} {t : List Nat} {b : bB} (h : ¬ pY tl i y) : fY g tl pre i x (y :: t) b = fY g tl pre i x t b := by
  show fY g tl pre i x t _ = _
  rw [if_neg h]
theorem fY_sk {g : List aSt → bB → bB} {tl : Nat → Int64} {pre : List aSt} {i x : Nat} {b : bB} (h : ∀ y, g (pre ++ [mkS tl i x y]) b = b) : ∀ t : List Nat, fY g tl pre i x t b = b := by
  intro t
  induction t with
  | nil => rfl
  | cons y t ih =>
    by_cases hp : pY tl i y
    · rw [fY_t hp, h, ih]
    · rw [fY_f hp, ih]
theorem fX_sk {g : List aSt → bB → bB} {tl : Nat → Int64} {pre : List aSt} {i : Nat} {b : bB} (h : ∀ x y, g (pre ++ [mkS tl i x y]) b = b) : ∀ t : List Nat, fX g tl pre i t b = b := by
  intro t
  induction t with
  | nil => rfl
  | cons x t ih =>
    show fX g tl pre i t (fY g tl pre i x _ b) = b
    rw [fY_sk (h x), ih]
theorem fK_sk {g : List aSt → bB → bB} {tl : Nat → Int64} {pre : List aSt} {b : bB} (h : ∀ i x y, g (pre ++ [mkS tl i x y]) b = b) : ∀ t : List Nat, fK g tl pre t b = b := by
  intro t
  induction t with
  | nil => rfl
  | cons i t ih =>
    show fK g tl pre t (fX g tl pre i _ b) = b
    rw [fX_sk (h i), ih]
theorem sc_skip (Rt : List aSt → Prop) (pr : Nat → Nat) (tl : Nat → Int64) : ∀ (r : Nat) (pre : List aSt) (b : bB), b.1 ≤ cN pr pre → sc Rt pr tl r pre b = b := by
  intro r
  induction r with
  | zero =>
    intro pre b h
    exact if_neg (fun z => absurd z.1 (Nat.not_lt.mpr h))
  | succ r ih =>
    intro pre b h
    exact fK_sk (fun i x y => ih _ _ (by rw [cN_app]; omega)) _
theorem acN_t {Rt : List aSt → Prop} {pr : Nat → Nat} {f : List aSt} {b : bB} (h : cN pr f < b.1) (hr : Rt f) : acN Rt pr f b = (cN pr f, f) := if_pos ⟨h, hr⟩
theorem acN_f {Rt : List aSt → Prop} {pr : Nat → Nat} {f : List aSt} {b : bB} (hr : ¬ Rt f) : acN Rt pr f b = b := if_neg (fun z => hr z.2)
theorem t8_lt (tl : Nat → Int64) (p : Nat) : uN (t8 tl p) < 256 := by
  unfold t8
  rw [uN_and]
  exact Nat.lt_of_le_of_lt Nat.and_le_right (by decide)
theorem mkS_y {tl : Nat → Int64} {i x y : Nat} (h : ¬ isOp (mkS tl i x y).1) : uN (mkS tl i x y).2.2 < 2 ^ 8 := by
  show uN (yOfV tl (nI i) y) < _
  have h' : ¬ isOp (nI i) := h
  rw [yOfV, if_neg h']
  exact t8_lt _ _
/-- the scan from one step up to `most` -/
noncomputable def scAll (Rt : List aSt → Prop) (pr : Nat → Nat) (tl : Nat → Int64) : Nat → bB
  | 0 => (1000, [])
  | n + 1 => sc Rt pr tl (n + 1) [] (scAll Rt pr tl n)
def rtF (cn : Nat → Prop) (dq : Nat → Int64) (f : List aSt) : Prop := ∀ v, v < 256 → cn v → opA 8 f (lN v) f.length f.length = dq v
