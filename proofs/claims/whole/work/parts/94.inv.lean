/-! what holds of the abstract state -/
abbrev aK : Type := List aF × (Nat → Int32) × (Nat → Int64) × (Nat → aHd)
def core (A : aA) : aK := (A.1, A.2.1, A.2.2.1, A.2.2.2.1)
def kUndo (K : aK) (c : aAc) : aK := if c.1 = 1 then (K.1.take c.2.1, K.2) else if c.1 = 2 then (match K.1[c.2.1]? with
    | some g => (K.1.set c.2.1 (g.1, g.2.dropLast), K.2)
    | none => K) else if c.1 = 3 then (K.1, va_up K.2.1 c.2.1 c.2.2.2.1.toInt32, K.2.2) else if c.1 = 4 then (K.1, K.2.1, va_up K.2.2.1 c.2.1 c.2.2.2.1, K.2.2.2) else if c.1 = 5 then (K.1, K.2.1, K.2.2.1, va_up K.2.2.2 c.2.1 c.2.2.2.2) else (K.1, K.2.1, K.2.2.1, va_up K.2.2.2 c.2.1 ((K.2.2.2 c.2.1).1, (K.2.2.2 c.2.1).2.set c.2.2.1 c.2.2.2.1))
theorem core_undo (A : aA) (c : aAc) : core (aUndo A c) = kUndo (core A) c := by
  unfold aUndo kUndo
  by_cases h1 : c.1 = 1
  · rw [if_pos h1, if_pos h1]; rfl
  rw [if_neg h1, if_neg h1]
  by_cases h2 : c.1 = 2
  · rw [if_pos h2, if_pos h2]
    show core (match A.1[c.2.1]? with | some g => _ | none => _) = (match A.1[c.2.1]? with | some g => _ | none => _)
    cases A.1[c.2.1]? <;> rfl
  rw [if_neg h2, if_neg h2]
  by_cases h3 : c.1 = 3
  · rw [if_pos h3, if_pos h3]; rfl
  rw [if_neg h3, if_neg h3]
  by_cases h4 : c.1 = 4
  · rw [if_pos h4, if_pos h4]; rfl
  rw [if_neg h4, if_neg h4]
  by_cases h5 : c.1 = 5
  · rw [if_pos h5, if_pos h5]; rfl
  rw [if_neg h5, if_neg h5]
  rfl
def hk2 (h : aHd) : Prop := (h.1 = 1 → h.2.length = 2) ∧ h.2.length ≤ 12
def okS (K : aK) (c : aAc) : Prop := (c.1 = 1 ∧ c.2.1 + 1 = K.1.length) ∨ (c.1 = 2 ∧ ∃ g, K.1[c.2.1]? = some g ∧ g.2 ≠ []) ∨ (c.1 = 3 ∧ c.2.1 < 13 ∧ ∃ p : Nat, 1 ≤ p ∧ p ≤ 50 ∧ c.2.2.2.1.toInt32 = nI p) ∨ (c.1 = 4 ∧ c.2.1 < 4) ∨ (c.1 = 5 ∧ c.2.1 < 8 ∧ hk2 c.2.2.2.2) ∨ (c.1 = 6 ∧ c.2.1 < 8 ∧ c.2.2.1 < (K.2.2.2 c.2.1).2.length ∧ ¬ (K.2.2.2 c.2.1).1 = 1)
def chn : List aAc → aK → Prop
  | [], _ => True
  | c :: t, K => okS K c ∧ chn t (kUndo K c)
theorem chn_pre : ∀ {t u : List aAc} {K : aK}, chn (t ++ u) K → chn t K := by
  intro t
  induction t with
  | nil => intro u K _; trivial
  | cons c t ih => intro u K h; exact ⟨h.1, ih h.2⟩
def kWf (K : aK) : Prop := ((∀ (f : Nat) (g : aF), K.1[f]? = some g → wfF g) ∧ K.1.length ≤ 60) ∧ (∀ i, i < 13 → ∃ p : Nat, 1 ≤ p ∧ p ≤ 50 ∧ K.2.1 i = nI p) ∧ (∀ h, h < 8 → hk2 (K.2.2.2 h))
def Inv (A : aA) : Prop := kWf (core A) ∧ chn A.2.2.2.2.1.reverse (core A) ∧ A.2.2.2.2.1.length ≤ 50
theorem Inv.wf {A : aA} (h : Inv A) : wfA A := h.1.1.1
theorem Inv.pr {A : aA} (h : Inv A) : prOk A := h.1.2.1
/-- an act is noted -/
theorem Inv.note {A A' : aA} {c : aAc} (h : Inv A) (ha : A'.2.2.2.2.1 = A.2.2.2.2.1) (hw : kWf (core A')) (hc : okS (core A') c) (hu : kUndo (core A') c = core A) : Inv (aNote A' c) := by
  have e : (aNote A' c).2.2.2.2.1 = (if 50 ≤ A.2.2.2.2.1.length then A.2.2.2.2.1.drop 1 else A.2.2.2.2.1) ++ [c] := by
    unfold aNote
    rw [ha]
    rfl
  refine ⟨hw, ?_, ?_⟩
  · rw [e, List.reverse_append]
    refine ⟨hc, ?_⟩
    show chn _ (kUndo (core A') c)
    rw [hu]
    split
    · cases hl : A.2.2.2.2.1 with
      | nil => exact trivial
      | cons d t =>
        have := h.2.1
        rw [hl, List.reverse_cons] at this
        exact chn_pre this
    · exact h.2.1
  · rw [e, List.length_append]
    have := h.2.2
    split
    · rw [List.length_drop]
      show _ + 1 ≤ 50
      omega
    · show _ + 1 ≤ 50
      omega
theorem up_back {α : Type} (f : Nat → α) (k : Nat) (v : α) : va_up (va_up f k v) k (f k) = f := by
  funext j
  unfold va_up
  split
  · rename_i e; rw [e]
  · rfl
theorem Inv_0 : Inv A0 := by
  refine ⟨⟨⟨fun f g hg => by simp [core, A0] at hg, Nat.zero_le _⟩, fun i hi => ?_, fun h _ => ⟨fun z => absurd (show (0 : Int32) = 1 from z) (by decide), Nat.zero_le _⟩⟩, trivial, Nat.zero_le _⟩
  show ∃ p : Nat, 1 ≤ p ∧ p ≤ 50 ∧ mPr0 i = nI p
  rcases (show i = 0 ∨ i = 1 ∨ i = 2 ∨ i = 3 ∨ i = 4 ∨ i = 5 ∨ i = 6 ∨ i = 7 ∨ i = 8 ∨ i = 9 ∨ i = 10 ∨ i = 11 ∨ i = 12 by omega) with rfl | rfl | rfl | rfl | rfl | rfl | rfl | rfl | rfl | rfl | rfl | rfl | rfl
  · exact ⟨1, by decide, by decide, by decide⟩
  · exact ⟨1, by decide, by decide, by decide⟩
  · exact ⟨4, by decide, by decide, by decide⟩
  · exact ⟨4, by decide, by decide, by decide⟩
  · exact ⟨3, by decide, by decide, by decide⟩
  · exact ⟨1, by decide, by decide, by decide⟩
  · exact ⟨1, by decide, by decide, by decide⟩
  · exact ⟨1, by decide, by decide, by decide⟩
  · exact ⟨1, by decide, by decide, by decide⟩
  · exact ⟨1, by decide, by decide, by decide⟩
  · exact ⟨1, by decide, by decide, by decide⟩
  · exact ⟨1, by decide, by decide, by decide⟩
  · exact ⟨1, by decide, by decide, by decide⟩
/-- a form is added -/
theorem Inv.addF {A : aA} (h : Inv A) (hl : A.1.length < 60) {g : aF} (hg : wfF g) : Inv (aNote (A.1 ++ [g], A.2) (1, A.1.length, 0, 0, (0, []))) := by
  refine h.note rfl ⟨⟨fun f g' hf => ?_, ?_⟩, h.1.2⟩ (Or.inl ⟨rfl, ?_⟩) ?_
  · have hf' : (A.1 ++ [g])[f]? = some g' := hf
    by_cases e : f < A.1.length
    · rw [List.getElem?_append_left e] at hf'
      exact h.1.1.1 f g' hf'
    · have hk : f = A.1.length := by
        have := (List.getElem?_eq_some_iff.mp hf').1
        simp at this
        omega
      subst hk
      simp at hf'
      subst hf'
      exact hg
  · show (A.1 ++ [g]).length ≤ 60
    rw [List.length_append]
    exact hl
  · show A.1.length + 1 = (A.1 ++ [g]).length
    rw [List.length_append]
    rfl
  · show ((A.1 ++ [g]).take A.1.length, A.2.1, A.2.2.1, A.2.2.2.1) = core A
    rw [List.take_left']
    · rfl
    · rfl
theorem Inv.price {A : aA} (h : Inv A) {k p : Nat} (hk : k < 13) (h1 : 1 ≤ p) (h2 : p ≤ 50) : Inv (aNote (A.1, va_up A.2.1 k (nI p), A.2.2) (3, k, 0, (A.2.1 k).toInt64, (0, []))) := by
  refine h.note rfl ⟨h.1.1, fun i hi => ?_, h.1.2.2⟩ (Or.inr (Or.inr (Or.inl ⟨rfl, hk, ?_⟩))) ?_
  · show ∃ q : Nat, 1 ≤ q ∧ q ≤ 50 ∧ va_up A.2.1 k (nI p) i = nI q
    by_cases e : i = k
    · subst e
      exact ⟨p, h1, h2, va_up_self _ _ _⟩
    · rw [va_up_ne _ _ e]
      exact h.1.2.1 i hi
  · show ∃ q : Nat, 1 ≤ q ∧ q ≤ 50 ∧ (A.2.1 k).toInt64.toInt32 = nI q
    rw [Int32.toInt32_toInt64]
    exact h.1.2.1 k hk
  · show (A.1, va_up (va_up A.2.1 k (nI p)) k (A.2.1 k).toInt64.toInt32, A.2.2.1, A.2.2.2.1) = core A
    rw [Int32.toInt32_toInt64, up_back]
    rfl
theorem Inv.tell {A : aA} (h : Inv A) {k : Nat} (hk : k < 4) (v : Int64) : Inv (aNote (A.1, A.2.1, va_up A.2.2.1 k v, A.2.2.2) (4, k, 0, A.2.2.1 k, (0, []))) := by
  refine h.note rfl ⟨h.1.1, h.1.2.1, h.1.2.2⟩ (Or.inr (Or.inr (Or.inr (Or.inl ⟨rfl, hk⟩)))) ?_
  show (A.1, A.2.1, va_up (va_up A.2.2.1 k v) k (A.2.2.1 k), A.2.2.2.1) = core A
  rw [up_back]
  rfl
theorem kWf.hk {K : aK} (h : kWf K) {k : Nat} {d : aHd} (hd : hk2 d) : kWf (K.1, K.2.1, K.2.2.1, va_up K.2.2.2 k d) := by
  refine ⟨h.1, h.2.1, fun i hi => ?_⟩
  show hk2 (va_up K.2.2.2 k d i)
  by_cases e : i = k
  · subst e
    rw [va_up_self]
    exact hd
  · rw [va_up_ne _ _ e]
    exact h.2.2 i hi
theorem hk_note (A : aA) (c : aAc) (k : Nat) (d : aHd) : aSetHk (aNote A c) k d = aNote (aSetHk A k d) c := rfl
theorem Inv.hook {A : aA} (h : Inv A) {k : Nat} (hk : k < 8) {d : aHd} (hd : hk2 d) : Inv (aSetHk (aNote A (5, k, 0, 0, A.2.2.2.1 k)) k d) := by
  rw [hk_note]
  refine h.note rfl (h.1.hk hd) (Or.inr (Or.inr (Or.inr (Or.inr (Or.inl ⟨rfl, hk, h.1.2.2 k hk⟩))))) ?_
  show (A.1, A.2.1, A.2.2.1, va_up (va_up A.2.2.2.1 k d) k (A.2.2.2.1 k)) = core A
  rw [up_back]
  rfl
theorem Inv.cell {A : aA} (h : Inv A) {k i : Nat} (hk : k < 8) (hi : i < (A.2.2.2.1 k).2.length) (h1 : ¬ (A.2.2.2.1 k).1 = 1) (v : Int64) : Inv (aSetHk (aNote A (6, k, i, (A.2.2.2.1 k).2.getD i 0, (0, []))) k ((A.2.2.2.1 k).1, (A.2.2.2.1 k).2.set i v)) := by
  rw [hk_note]
  have h2 := h.1.2.2 k hk
  refine h.note rfl (h.1.hk ⟨fun z => absurd z h1, ?_⟩) (Or.inr (Or.inr (Or.inr (Or.inr (Or.inr ⟨rfl, hk, ?_, ?_⟩))))) ?_
  · show ((A.2.2.2.1 k).2.set i v).length ≤ 12
    rw [List.length_set]
    exact h2.2
  · show i < (va_up A.2.2.2.1 k ((A.2.2.2.1 k).1, (A.2.2.2.1 k).2.set i v) k).2.length
    rw [va_up_self]
    show i < ((A.2.2.2.1 k).2.set i v).length
    rw [List.length_set]
    exact hi
  · show ¬ (va_up A.2.2.2.1 k ((A.2.2.2.1 k).1, (A.2.2.2.1 k).2.set i v) k).1 = 1
    rw [va_up_self]
    exact h1
  · show (A.1, A.2.1, A.2.2.1, va_up (va_up A.2.2.2.1 k ((A.2.2.2.1 k).1, (A.2.2.2.1 k).2.set i v)) k ((va_up A.2.2.2.1 k ((A.2.2.2.1 k).1, (A.2.2.2.1 k).2.set i v) k).1, (va_up A.2.2.2.1 k ((A.2.2.2.1 k).1, (A.2.2.2.1 k).2.set i v) k).2.set i ((A.2.2.2.1 k).2.getD i 0))) = core A
    rw [va_up_self]
    show (A.1, A.2.1, A.2.2.1, va_up (va_up A.2.2.2.1 k ((A.2.2.2.1 k).1, (A.2.2.2.1 k).2.set i v)) k ((A.2.2.2.1 k).1, ((A.2.2.2.1 k).2.set i v).set i ((A.2.2.2.1 k).2.getD i 0))) = core A
    have e : ((A.2.2.2.1 k).2.set i v).set i ((A.2.2.2.1 k).2.getD i 0) = (A.2.2.2.1 k).2 := by
      rw [List.set_set, show (A.2.2.2.1 k).2.getD i 0 = (A.2.2.2.1 k).2[i] by (rw [List.getD_eq_getElem?_getD, List.getElem?_eq_getElem hi]; rfl)]
      exact List.set_getElem_self hi
    rw [e]
    show (A.1, A.2.1, A.2.2.1, va_up (va_up A.2.2.2.1 k ((A.2.2.2.1 k).1, (A.2.2.2.1 k).2.set i v)) k (A.2.2.2.1 k)) = core A
    rw [up_back]
    rfl
theorem Inv.step {A : aA} (h : Inv A) {f : Nat} {g : aF} (hf : A.1[f]? = some g) {s : aSt} (hs : wfF (g.1, g.2 ++ [s])) : Inv (aNote (A.1.set f (g.1, g.2 ++ [s]), A.2) (2, f, 0, 0, (0, []))) := by
  obtain ⟨hl, he⟩ := List.getElem?_eq_some_iff.mp hf
  have hself : (A.1.set f (g.1, g.2 ++ [s]))[f]? = some (g.1, g.2 ++ [s]) := by simp [hl]
  refine h.note rfl ⟨⟨fun j g' hj => ?_, ?_⟩, h.1.2⟩ (Or.inr (Or.inl ⟨rfl, _, hself, by simp⟩)) ?_
  · have hj' : (A.1.set f (g.1, g.2 ++ [s]))[j]? = some g' := hj
    by_cases e : f = j
    · subst e
      rw [hself] at hj'
      cases hj'
      exact hs
    · rw [List.getElem?_set_ne e] at hj'
      exact h.1.1.1 j g' hj'
  · show (A.1.set f _).length ≤ 60
    rw [List.length_set]
    exact h.1.1.2
  · show (match (A.1.set f (g.1, g.2 ++ [s]))[f]? with | some g => ((A.1.set f (_, _)).set f (g.1, g.2.dropLast), _) | none => _) = core A
    rw [hself]
    show ((A.1.set f (g.1, g.2 ++ [s])).set f (g.1, (g.2 ++ [s]).dropLast), A.2.1, A.2.2.1, A.2.2.2.1) = core A
    rw [List.set_set, List.dropLast_concat, show (g.1, g.2) = A.1[f] from he.symm, List.set_getElem_self]
    rfl
theorem wfF_dl {g : aF} (h : wfF g) : wfF (g.1, g.2.dropLast) := by
  refine ⟨h.1, ?_, fun k s hs => ?_⟩
  · show g.2.dropLast.length ≤ 12
    rw [List.length_dropLast]
    have := h.2.1
    omega
  · have hs' : g.2.dropLast[k]? = some s := hs
    rw [List.dropLast_eq_take, List.getElem?_take] at hs'
    split at hs'
    · exact h.2.2 k s hs'
    · cases hs'
theorem kWf.undo {K : aK} {c : aAc} (h : kWf K) (hc : okS K c) : kWf (kUndo K c) := by
  rcases hc with ⟨e, h1⟩ | ⟨e, g, hg, h1⟩ | ⟨e, h1, h2⟩ | ⟨e, h1⟩ | ⟨e, h1, h2⟩ | ⟨e, h1, h2, h3⟩
  · have ek : kUndo K c = (K.1.take c.2.1, K.2) := if_pos e
    rw [ek]
    refine ⟨⟨fun f g hf => ?_, ?_⟩, h.2⟩
    · have hf' : (K.1.take c.2.1)[f]? = some g := hf
      rw [List.getElem?_take] at hf'
      split at hf'
      · exact h.1.1 f g hf'
      · cases hf'
    · show (K.1.take c.2.1).length ≤ 60
      rw [List.length_take]
      have := h.1.2
      omega
  · have ek : kUndo K c = (K.1.set c.2.1 (g.1, g.2.dropLast), K.2) := by
      unfold kUndo
      rw [if_neg (by rw [e]; decide), if_pos e, hg]
    rw [ek]
    refine ⟨⟨fun j g' hj => ?_, ?_⟩, h.2⟩
    · have hj' : (K.1.set c.2.1 (g.1, g.2.dropLast))[j]? = some g' := hj
      by_cases ej : c.2.1 = j
      · subst ej
        rw [List.getElem?_set_self ((List.getElem?_eq_some_iff.mp hg).1)] at hj'
        cases hj'
        exact wfF_dl (h.1.1 _ g hg)
      · rw [List.getElem?_set_ne ej] at hj'
        exact h.1.1 j g' hj'
    · show (K.1.set _ _).length ≤ 60
      rw [List.length_set]
      exact h.1.2
  · have ek : kUndo K c = (K.1, va_up K.2.1 c.2.1 c.2.2.2.1.toInt32, K.2.2) := by
      unfold kUndo
      rw [if_neg (by rw [e]; decide), if_neg (by rw [e]; decide), if_pos e]
    rw [ek]
    refine ⟨h.1, fun i hi => ?_, h.2.2⟩
    show ∃ p : Nat, 1 ≤ p ∧ p ≤ 50 ∧ va_up K.2.1 c.2.1 c.2.2.2.1.toInt32 i = nI p
    by_cases ei : i = c.2.1
    · rw [ei, va_up_self]
      exact h2
    · rw [va_up_ne _ _ ei]
      exact h.2.1 i hi
  · have ek : kUndo K c = (K.1, K.2.1, va_up K.2.2.1 c.2.1 c.2.2.2.1, K.2.2.2) := by
      unfold kUndo
      rw [if_neg (by rw [e]; decide), if_neg (by rw [e]; decide), if_neg (by rw [e]; decide), if_pos e]
    rw [ek]
    exact ⟨h.1, h.2.1, h.2.2⟩
  · have ek : kUndo K c = (K.1, K.2.1, K.2.2.1, va_up K.2.2.2 c.2.1 c.2.2.2.2) := by
      unfold kUndo
      rw [if_neg (by rw [e]; decide), if_neg (by rw [e]; decide), if_neg (by rw [e]; decide), if_neg (by rw [e]; decide), if_pos e]
    rw [ek]
    exact h.hk h2
  · have ek : kUndo K c = (K.1, K.2.1, K.2.2.1, va_up K.2.2.2 c.2.1 ((K.2.2.2 c.2.1).1, (K.2.2.2 c.2.1).2.set c.2.2.1 c.2.2.2.1)) := by
      unfold kUndo
      rw [if_neg (by rw [e]; decide), if_neg (by rw [e]; decide), if_neg (by rw [e]; decide), if_neg (by rw [e]; decide), if_neg (by rw [e]; decide)]
    rw [ek]
    refine h.hk ⟨fun z => absurd z h3, ?_⟩
    show ((K.2.2.2 c.2.1).2.set _ _).length ≤ 12
    rw [List.length_set]
    exact (h.2.2 _ h1).2
theorem okS.act {A : aA} {c : aAc} (h : okS (core A) c) : okAct A c := by
  rcases h with ⟨e, h1⟩ | ⟨e, h1⟩ | ⟨e, h1, h2⟩ | ⟨e, h1⟩ | ⟨e, h1, h2⟩ | ⟨e, h1, h2, h3⟩
  · exact Or.inl ⟨e, by have : c.2.1 + 1 = A.1.length := h1; omega⟩
  · exact Or.inr (Or.inl ⟨e, h1⟩)
  · exact Or.inr (Or.inr (Or.inl ⟨e, h1⟩))
  · exact Or.inr (Or.inr (Or.inr (Or.inl ⟨e, h1⟩)))
  · exact Or.inr (Or.inr (Or.inr (Or.inr (Or.inl ⟨e, h1⟩))))
  · exact Or.inr (Or.inr (Or.inr (Or.inr (Or.inr ⟨e, h1, h2⟩))))
theorem Inv.last {A : aA} (h : Inv A) {c : aAc} (hc : A.2.2.2.2.1.getLast? = some c) : okS (core A) c ∧ chn A.2.2.2.2.1.dropLast.reverse (kUndo (core A) c) := by
  obtain ⟨t, ht⟩ : ∃ t, A.2.2.2.2.1 = t ++ [c] := List.getLast?_eq_some_iff.mp hc
  have h2 := h.2.1
  rw [ht, List.reverse_append] at h2
  rw [ht, List.dropLast_concat]
  exact h2
theorem aUndo_ac2 (A : aA) (c : aAc) : (aUndo A c).2.2.2.2 = A.2.2.2.2 := by
  unfold aUndo
  split
  · rfl
  · split
    · split <;> rfl
    · split
      · rfl
      · split
        · rfl
        · split <;> rfl
theorem Inv.undo {A : aA} (h : Inv A) : Inv (sUndo A).2 := by
  unfold sUndo
  cases hc : A.2.2.2.2.1.getLast? with
  | none => exact h
  | some c =>
    obtain ⟨h1, h2⟩ := h.last hc
    have ec : core (aUndo (aSetHs A A.2.2.2.2.1.dropLast) c) = kUndo (core A) c := core_undo _ _
    have ea : (aUndo (aSetHs A A.2.2.2.2.1.dropLast) c).2.2.2.2.1 = A.2.2.2.2.1.dropLast := by
      rw [aUndo_ac2]
      rfl
    refine ⟨?_, ?_, ?_⟩
    · show kWf (core (aUndo (aSetHs A A.2.2.2.2.1.dropLast) c))
      rw [ec]
      exact h.1.undo h1
    · show chn (aUndo (aSetHs A A.2.2.2.2.1.dropLast) c).2.2.2.2.1.reverse (core (aUndo (aSetHs A A.2.2.2.2.1.dropLast) c))
      rw [ec, ea]
      exact h2
    · show (aUndo (aSetHs A A.2.2.2.2.1.dropLast) c).2.2.2.2.1.length ≤ 50
      rw [ea, List.length_dropLast]
      have := h.2.2
      omega
