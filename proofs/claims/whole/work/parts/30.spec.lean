/-! the abstract state: forms, prices, told numbers, what hooks hold, acts, looks; and how the reference holds it -/
theorem uJ_uJ (S : mS) (k : Nat) (f g : Nat → Int64) : uJ (uJ S k f) k g = uJ S k g := by
  unfold uJ
  simp only [bx_uu]
theorem uI_uI (S : mS) (k : Nat) (f g : Nat → Int32) : uI (uI S k f) k g = uI S k g := by
  unfold uI
  simp only [bx_uu]
theorem ui_ui (S : mS) (k : Nat) (f g : Int32) : ui (ui S k f) k g = ui S k g := by
  unfold ui
  simp only [bx_uu]
theorem ul_ul (S : mS) (k : Nat) (f g : Int64) : ul (ul S k f) k g = ul S k g := by
  unfold ul
  simp only [bx_uu]
abbrev aSt : Type := Int32 × Int32 × Int64
abbrev aF : Type := Int32 × List aSt
abbrev aHd : Type := Int32 × List Int64
abbrev aAc : Type := Nat × Nat × Nat × Int64 × aHd
abbrev aA : Type := List aF × (Nat → Int32) × (Nat → Int64) × (Nat → aHd) × List aAc × Nat
def hdR (S : mS) (j : Nat) (h : aHd) : Prop := S.2.2.1 15 j = h.1 ∧ S.2.2.1 16 j = nI h.2.length ∧ h.2.length ≤ 12 ∧ ∀ (i : Nat) (v : Int64), h.2[i]? = some v → S.2.2.2 17 (100 * j + i) = v
def fR (S : mS) (f : Nat) (g : aF) : Prop := S.2.2.1 3 f = g.1 ∧ S.2.2.1 4 f = nI g.2.length ∧ g.2.length ≤ 12 ∧ ∀ (k : Nat) (s : aSt), g.2[k]? = some s → S.2.2.1 5 (12 * f + k) = s.1 ∧ S.2.2.1 6 (12 * f + k) = s.2.1 ∧ S.2.2.2 7 (12 * f + k) = s.2.2
def cR (S : mS) (j : Nat) (a : aAc) : Prop := S.2.2.1 11 j = nI a.1 ∧ S.2.2.1 12 j = nI a.2.1 ∧ S.2.2.1 13 j = nI a.2.2.1 ∧ S.2.2.2 14 j = a.2.2.2.1 ∧ ∃ h : aHd, hdR S (8 + j) h ∧ (a.1 = 5 → h = a.2.2.2.2)
def RepM (S : mS) (A : aA) : Prop := (S.1 2 = nI A.1.length ∧ A.1.length ≤ 60 ∧ ∀ (f : Nat) (g : aF), A.1[f]? = some g → fR S f g) ∧ (∀ k, k < 13 → S.2.2.1 8 k = A.2.1 k) ∧ (∀ k, k < 4 → S.2.2.2 27 k = A.2.2.1 k) ∧ (∀ h, h < 8 → hdR S h (A.2.2.2.1 h)) ∧ (S.1 10 = nI A.2.2.2.2.1.length ∧ A.2.2.2.2.1.length ≤ 50 ∧ ∀ (j : Nat) (a : aAc), A.2.2.2.2.1[j]? = some a → cR S j a) ∧ (S.1 28 = nI A.2.2.2.2.2 ∧ A.2.2.2.2.2 ≤ 12)
theorem hdR.of {S S' : mS} {j : Nat} {h : aHd} (q : hdR S j h) (h1 : S'.2.2.1 15 = S.2.2.1 15) (h2 : S'.2.2.1 16 = S.2.2.1 16) (h3 : S'.2.2.2 17 = S.2.2.2 17) : hdR S' j h := by
  obtain ⟨a, b, c, d⟩ := q
  exact ⟨by rw [h1]; exact a, by rw [h2]; exact b, c, fun i v hv => by rw [h3]; exact d i v hv⟩
theorem fR.of {S S' : mS} {f : Nat} {g : aF} (q : fR S f g) (h : ∀ k ∈ [3, 4, 5, 6], S'.2.2.1 k = S.2.2.1 k) (h7 : S'.2.2.2 7 = S.2.2.2 7) : fR S' f g := by
  obtain ⟨a, b, c, d⟩ := q
  refine ⟨by rw [h 3 (by decide)]; exact a, by rw [h 4 (by decide)]; exact b, c, fun k s hs => ?_⟩
  rw [h 5 (by decide), h 6 (by decide), h7]
  exact d k s hs
theorem cR.of {S S' : mS} {j : Nat} {a : aAc} (q : cR S j a) (h : ∀ k ∈ [11, 12, 13, 15, 16], S'.2.2.1 k = S.2.2.1 k) (h14 : S'.2.2.2 14 = S.2.2.2 14) (h17 : S'.2.2.2 17 = S.2.2.2 17) : cR S' j a := by
  obtain ⟨q1, q2, q3, q4, h0, q5, q6⟩ := q
  exact ⟨by rw [h 11 (by decide)]; exact q1, by rw [h 12 (by decide)]; exact q2, by rw [h 13 (by decide)]; exact q3, by rw [h14]; exact q4, h0, q5.of (h 15 (by decide)) (h 16 (by decide)) h17, q6⟩
theorem RepM.of {S S' : mS} {A : aA} (q : RepM S A) (h1 : ∀ k ∈ [2, 10, 28], S'.1 k = S.1 k) (h2 : ∀ k ∈ [3, 4, 5, 6, 8, 11, 12, 13, 15, 16], S'.2.2.1 k = S.2.2.1 k) (h3 : ∀ k ∈ [7, 14, 17, 27], S'.2.2.2 k = S.2.2.2 k) : RepM S' A := by
  obtain ⟨⟨a1, a2, a3⟩, b, c, d, ⟨e1, e2, e3⟩, f1, f2⟩ := q
  refine ⟨⟨by rw [h1 2 (by decide)]; exact a1, a2, fun f g hg => (a3 f g hg).of (fun k hk => h2 k ?_) (h3 7 (by decide))⟩, fun k hk => by rw [h2 8 (by decide)]; exact b k hk, fun k hk => by rw [h3 27 (by decide)]; exact c k hk, fun h hh => (d h hh).of (h2 15 (by decide)) (h2 16 (by decide)) (h3 17 (by decide)), ⟨by rw [h1 10 (by decide)]; exact e1, e2, fun j a ha => (e3 j a ha).of (fun k hk => h2 k ?_) (h3 14 (by decide)) (h3 17 (by decide))⟩, by rw [h1 28 (by decide)]; exact f1, f2⟩
  · simp only [List.mem_cons, List.not_mem_nil, or_false] at hk ⊢
    omega
  · simp only [List.mem_cons, List.not_mem_nil, or_false] at hk ⊢
    omega
theorem RepM.sF {S S' : mS} {A : aA} {ki kl : List Nat} (q : RepM S A) (h : sF S S' ki kl) (hk : ∀ k ∈ [2, 10, 28], k ∉ ki) : RepM S' A := q.of (fun k z => h.1 k (hk k z)) (fun k _ => by rw [h.2.2]) (fun k _ => by rw [h.2.2])
/-- an index: below 0, beyond, or a place -/
theorem ix3 (x : Int32) (n : Nat) (hn : n < 2 ^ 31) : (x < 0) ∨ (¬ x < 0 ∧ nI n ≤ x) ∨ ∃ j : Nat, j < n ∧ x = nI j := by
  rcases pk_ix x hn with h | h | h
  · exact Or.inl h
  · by_cases h0 : x < 0
    · exact Or.inl h0
    · exact Or.inr (Or.inl ⟨h0, h⟩)
  · exact Or.inr (Or.inr h)
def aForm (A : aA) (f : Int32) : Option aF := if f < 0 then none else A.1[f.toNatClampNeg]?
theorem aForm_nI {A : aA} {j : Nat} (h : j < 2 ^ 31) : aForm A (nI j) = A.1[j]? := by
  unfold aForm
  rw [if_neg (nI_pos h), nI_clamp h]
theorem aForm_none {A : aA} {f : Int32} (hl : A.1.length ≤ 60) (h : f < 0 ∨ nI A.1.length ≤ f) : aForm A f = none := by
  unfold aForm
  by_cases h0 : f < 0
  · rw [if_pos h0]
  · rw [if_neg h0]
    rcases h with h | h
    · exact absurd h h0
    · obtain ⟨j, hj, rfl⟩ := nI_of h0
      rw [nI_clamp hj]
      rw [nI_leI (by omega) hj] at h
      exact List.getElem?_eq_none h
theorem aForm_cases (A : aA) (hl : A.1.length ≤ 60) (f : Int32) : ((f < 0 ∨ nI A.1.length ≤ f) ∧ aForm A f = none) ∨ ∃ (j : Nat) (g : aF), j < A.1.length ∧ f = nI j ∧ A.1[j]? = some g ∧ aForm A f = some g := by
  rcases ix3 f A.1.length (by omega) with h | h | ⟨j, hj, rfl⟩
  · exact Or.inl ⟨Or.inl h, aForm_none hl (Or.inl h)⟩
  · exact Or.inl ⟨Or.inr h.2, aForm_none hl (Or.inr h.2)⟩
  · exact Or.inr ⟨j, A.1[j], hj, rfl, List.getElem?_eq_getElem hj, by rw [aForm_nI (by omega), List.getElem?_eq_getElem hj]⟩
