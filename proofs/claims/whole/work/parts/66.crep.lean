/-! how the class holds the abstract state -/
def foE (σ : gH) (ow : Nat → Nat) (L : List aF) (f b : Nat) : Prop := ∃ w cnt kf xf yf, FoC σ ow (100 + 4 * f) b w cnt kf xf yf ∧ ∀ g, L[f]? = some g → w = g.1 ∧ cnt = nI g.2.length ∧ g.2.length ≤ 12 ∧ stR g.2 kf xf yf
def FTab (σ : gH) (ow : Nat → Nat) (fa : Nat) (L : List aF) (ff : Nat → Option Nat) : Prop := Pt σ ow fa 1 (gAq (.object RX3) 60 ff) ∧ L.length ≤ 60 ∧ (∀ f, f < 60 → ∀ b, ff f = some b → foE σ ow L f b) ∧ (∀ f, f < L.length → ∃ b, ff f = some b)
def HoC (σ : gH) (ow : Nat → Nat) (b : Nat) (h : aHd) : Prop := ∃ (sk : Int32) (sy : Int64) (c n : Nat) (f : Nat → Int64), Pt σ ow b 50 (gO 4 [.int h.1, .int sk, .long sy, .ref c]) ∧ Pt σ ow c (1000 + b) (gAl n f) ∧ n ≤ 12 ∧ ((h.1 = 1 ∧ n = 0 ∧ h.2 = [sk.toInt64, sy]) ∨ (¬ h.1 = 1 ∧ n = h.2.length ∧ ∀ (i : Nat) (v : Int64), h.2[i]? = some v → f i = v))
def HkC (σ : gH) (ow : Nat → Nat) (ha : Nat) (hk : Nat → Nat) (H : Nat → aHd) : Prop := ∃ hf, Pt σ ow ha 4 (gAq (.object RX5) 8 hf) ∧ ∀ h, h < 8 → hf h = some (hk h) ∧ HoC σ ow (hk h) (H h)
def AcH (σ : gH) (ow : Nat → Nat) (cs : List cA) : Prop := ∀ c ∈ cs, c.1.1 = 5 → ∃ b, c.2 = some b ∧ HoC σ ow b c.1.2.2.2.2
def ALs (na : Nat) (hk : Nat → Nat) (cs : List cA) : Prop := (∀ h h', h < 8 → h' < 8 → hk h = hk h' → h = h' ∨ hk h = na) ∧ (∀ h, h < 8 → ∀ c ∈ cs, c.1.1 = 5 → c.2 = some (hk h) → hk h = na) ∧ List.Pairwise (fun c c' => c.1.1 = 5 → c'.1.1 = 5 → c.2 = c'.2 → c.2 = some na) cs
def ckL (hk : Nat → Nat) : List cA → Prop
  | [] => True
  | c :: t => (c.1.1 = 5 → ∃ b, c.2 = some b ∧ ckL (va_up hk c.1.2.1 b) t) ∧ (¬ c.1.1 = 5 → (c.1.1 = 6 → c.2 = some (hk c.1.2.1)) ∧ ckL hk t)
def SeO (ad : Nat → Nat) (ac cc bc bl : Int32) : gC := gO 6 [.ref (ad 10), .int ac, .ref (ad 11), .ref (ad 12), .ref (ad 16), .int cc, .ref (ad 17), .ref (ad 18), .ref (ad 19), .ref (ad 20), .ref (ad 21), .int bc, .int bl, .ref (ad 22)]
def SeX (σ : gH) (ow : Nat → Nat) (sr : Nat) (ad : Nat → Nat) (sc4 : Int32 × Int32 × Int32 × Int32) (I : Nat → Nat → Int32) (J : Nat → Nat → Int64) : Prop := Pt σ ow sr 8 (SeO ad sc4.1 sc4.2.1 sc4.2.2.1 sc4.2.2.2) ∧ (Pt σ ow (ad 10) 10 (gAi 13 (I 10)) ∧ Pt σ ow (ad 11) 11 (gAl 256 (J 11)) ∧ Pt σ ow (ad 12) 12 (gAq (.array .long) 3 (fun k => some (ad (13 + k))))) ∧ (∀ k, k < 3 → Pt σ ow (ad (13 + k)) (13 + k) (gAl 256 (J (13 + k)))) ∧ (Pt σ ow (ad 16) 16 (gAi 3 (I 16)) ∧ Pt σ ow (ad 17) 17 (gAi 144 (I 17)) ∧ Pt σ ow (ad 18) 18 (gAi 144 (I 18)) ∧ Pt σ ow (ad 19) 19 (gAl 144 (J 19)) ∧ Pt σ ow (ad 20) 20 (gAi 144 (I 20)) ∧ Pt σ ow (ad 21) 21 (gAi 3 (I 21)) ∧ Pt σ ow (ad 22) 22 (gAi 3 (I 22)))
def SeC (σ : gH) (ow : Nat → Nat) (sr : Nat) : Prop := ∃ ad sc4 I J, SeX σ ow sr ad sc4 I J
def xO (ad : Nat → Nat) (n lk : Nat) : gC := gO 8 [.ref (ad 1), .int (nI n), .ref (ad 2), .ref (ad 3), .ref (ad 4), .ref (ad 5), .ref (ad 6), .ref (ad 8), .int (nI lk), .ref (ad 9)]
def PrT (σ : gH) (ow : Nat → Nat) (a : Nat) (p : Nat → Int32) : Prop := ∃ f, Pt σ ow a 2 (gAi 13 f) ∧ ∀ k, k < 13 → f k = p k
def TlT (σ : gH) (ow : Nat → Nat) (a : Nat) (t : Nat → Int64) : Prop := ∃ f, Pt σ ow a 3 (gAl 4 f) ∧ ∀ k, k < 4 → f k = t k
def MaT (σ : gH) (ow : Nat → Nat) (a : Nat) : Prop := ∃ f, Pt σ ow a 9 (gAl 13 f)
def RCx (σ : gH) (ow : Nat → Nat) (x : Nat) (A : aA) (ad hk : Nat → Nat) (cs : List cA) (ff : Nat → Option Nat) : Prop :=
  Pt σ ow x 0 (xO ad A.1.length A.2.2.2.2.2) ∧ FTab σ ow (ad 1) A.1 ff ∧ PrT σ ow (ad 2) A.2.1 ∧ TlT σ ow (ad 3) A.2.2.1 ∧ HkC σ ow (ad 4) hk A.2.2.2.1 ∧ HoC σ ow (ad 5) (0, []) ∧ (HiC σ ow (ad 6) cs ∧ A.2.2.2.2.1 = cs.map Prod.fst ∧ AcH σ ow cs) ∧ (ALs (ad 5) hk cs ∧ ckL hk cs.reverse) ∧ SeC σ ow (ad 8) ∧ MaT σ ow (ad 9) ∧ A.2.2.2.2.2 ≤ 12
def RC (σ : gH) (x : Nat) (A : aA) : Prop := ∃ ow ad hk cs ff, RCx σ ow x A ad hk cs ff
section Mono
variable {ex : Nat → Prop} {σ σ' : gH} {ow ow' : Nat → Nat}
theorem foE.mono {L : List aF} {f b : Nat} (h : foE σ ow L f b) (hs : Sm ex σ ow σ' ow') (hf : f < 60) (hx : ∀ m, 100 ≤ m → m < 340 → ¬ ex m) : foE σ' ow' L f b := by
  obtain ⟨w, cnt, kf, xf, yf, h1, h2⟩ := h
  exact ⟨w, cnt, kf, xf, yf, h1.mono hs (fun m q1 q2 => hx m (by omega) (by omega)), h2⟩
theorem FTab.mono {fa : Nat} {L : List aF} {ff : Nat → Option Nat} (h : FTab σ ow fa L ff) (hs : Sm ex σ ow σ' ow') (h1 : ¬ ex 1) (hx : ∀ m, 100 ≤ m → m < 340 → ¬ ex m) : FTab σ' ow' fa L ff := ⟨h.1.mono hs h1, h.2.1, fun f hf b hb => (h.2.2.1 f hf b hb).mono hs hf hx, h.2.2.2⟩
theorem HoC.mono {b : Nat} {h : aHd} (q : HoC σ ow b h) (hs : Sm ex σ ow σ' ow') (h50 : ¬ ex 50) (hc : ¬ ex (1000 + b)) : HoC σ' ow' b h := by
  obtain ⟨sk, sy, c, n, f, h1, h2, h3⟩ := q
  exact ⟨sk, sy, c, n, f, h1.mono hs h50, h2.mono hs hc, h3⟩
theorem HkC.mono {ha : Nat} {hk : Nat → Nat} {H : Nat → aHd} (q : HkC σ ow ha hk H) (hs : Sm ex σ ow σ' ow') (h4 : ¬ ex 4) (h50 : ¬ ex 50) (hc : ∀ m, 1000 ≤ m → ¬ ex m) : HkC σ' ow' ha hk H := by
  obtain ⟨hf, h1, h2⟩ := q
  exact ⟨hf, h1.mono hs h4, fun h hh => ⟨(h2 h hh).1, (h2 h hh).2.mono hs h50 (hc _ (by omega))⟩⟩
theorem AcH.mono {cs : List cA} (q : AcH σ ow cs) (hs : Sm ex σ ow σ' ow') (h50 : ¬ ex 50) (hc : ∀ m, 1000 ≤ m → ¬ ex m) : AcH σ' ow' cs := fun c hcc h5 => by
  obtain ⟨b, h1, h2⟩ := q c hcc h5
  exact ⟨b, h1, h2.mono hs h50 (hc _ (by omega))⟩
theorem SeX.mono {sr : Nat} {ad : Nat → Nat} {sc4 : Int32 × Int32 × Int32 × Int32} {I : Nat → Nat → Int32} {J : Nat → Nat → Int64} (q : SeX σ ow sr ad sc4 I J) (hs : Sm ex σ ow σ' ow') (hx : ∀ m, 8 ≤ m → m ≤ 22 → m ≠ 9 → ¬ ex m) : SeX σ' ow' sr ad sc4 I J := by
  obtain ⟨h1, ⟨h2, h3, h4⟩, h5, h6, h7, h8, h9, h10, h11, h12⟩ := q
  exact ⟨h1.mono hs (hx _ (by decide) (by decide) (by decide)), ⟨h2.mono hs (hx _ (by decide) (by decide) (by decide)), h3.mono hs (hx _ (by decide) (by decide) (by decide)), h4.mono hs (hx _ (by decide) (by decide) (by decide))⟩, fun k hk => (h5 k hk).mono hs (hx _ (by omega) (by omega) (by omega)), h6.mono hs (hx _ (by decide) (by decide) (by decide)), h7.mono hs (hx _ (by decide) (by decide) (by decide)), h8.mono hs (hx _ (by decide) (by decide) (by decide)), h9.mono hs (hx _ (by decide) (by decide) (by decide)), h10.mono hs (hx _ (by decide) (by decide) (by decide)), h11.mono hs (hx _ (by decide) (by decide) (by decide)), h12.mono hs (hx _ (by decide) (by decide) (by decide))⟩
theorem SeC.mono {sr : Nat} (q : SeC σ ow sr) (hs : Sm ex σ ow σ' ow') (hx : ∀ m, 8 ≤ m → m ≤ 22 → m ≠ 9 → ¬ ex m) : SeC σ' ow' sr := by
  obtain ⟨ad, sc4, I, J, h⟩ := q
  exact ⟨ad, sc4, I, J, h.mono hs hx⟩
theorem PrT.mono {a : Nat} {p : Nat → Int32} (q : PrT σ ow a p) (hs : Sm ex σ ow σ' ow') (h : ¬ ex 2) : PrT σ' ow' a p := by
  obtain ⟨f, h1, h2⟩ := q
  exact ⟨f, h1.mono hs h, h2⟩
theorem TlT.mono {a : Nat} {p : Nat → Int64} (q : TlT σ ow a p) (hs : Sm ex σ ow σ' ow') (h : ¬ ex 3) : TlT σ' ow' a p := by
  obtain ⟨f, h1, h2⟩ := q
  exact ⟨f, h1.mono hs h, h2⟩
theorem MaT.mono {a : Nat} (q : MaT σ ow a) (hs : Sm ex σ ow σ' ow') (h : ¬ ex 9) : MaT σ' ow' a := by
  obtain ⟨f, h1⟩ := q
  exact ⟨f, h1.mono hs h⟩
end Mono
theorem Sm.none {σ : gH} {ow : Nat → Nat} {q : Nat} (hq : σ q = none) (c : gC) (n : Nat) : Sm (fun _ => False) σ ow (su σ q c) (va_up ow q n) := Sm.fre hq _ c n
/-- a cell that is new and not looked at by the representation, or the row 'made' -/
theorem RCx.oth {σ σ' : gH} {ow ow' : Nat → Nat} {x : Nat} {A : aA} {ad hk : Nat → Nat} {cs : List cA} {ff : Nat → Option Nat} (q : RCx σ ow x A ad hk cs ff) (hs : Sm (fun m => m = 9) σ ow σ' ow') (hm : MaT σ' ow' (ad 9)) : RCx σ' ow' x A ad hk cs ff := by
  obtain ⟨h1, h2, h3, h4, h5, h6, ⟨h7, h8, h9⟩, h10, h11, h12, h13⟩ := q
  exact ⟨h1.mono hs (by decide), h2.mono hs (by decide) (fun m _ _ => by omega), h3.mono hs (by decide), h4.mono hs (by decide), h5.mono hs (by decide) (by decide) (fun m _ => by omega), h6.mono hs (by decide) (by omega), ⟨h7.mono hs (by decide) (by decide) (by decide), h8, h9.mono hs (by decide) (fun m _ => by omega)⟩, h10, h11.mono hs (fun m _ _ _ => by omega), hm, h13⟩
theorem RCx.new {σ σ' : gH} {ow ow' : Nat → Nat} {x : Nat} {A : aA} {ad hk : Nat → Nat} {cs : List cA} {ff : Nat → Option Nat} (q : RCx σ ow x A ad hk cs ff) (hs : Sm (fun _ => False) σ ow σ' ow') : RCx σ' ow' x A ad hk cs ff := q.oth (hs.wk (fun _ z => z.elim)) (q.2.2.2.2.2.2.2.2.2.1.mono hs (fun z => z))
/-- acts change -/
theorem RCx.hist {σ σ' : gH} {ow : Nat → Nat} {x : Nat} {A : aA} {ad hk : Nat → Nat} {cs cs' : List cA} {ff : Nat → Option Nat} (q : RCx σ ow x A ad hk cs ff) (hs : Sm hx67 σ ow σ' ow) (hi : HiC σ' ow (ad 6) cs') (hc : AcH σ' ow cs') (ha : ALs (ad 5) hk cs' ∧ ckL hk cs'.reverse) : RCx σ' ow x (aSetHs A (cs'.map Prod.fst)) ad hk cs' ff := by
  obtain ⟨h1, h2, h3, h4, h5, h6, ⟨h7, h8, h9⟩, h10, h11, h12, h13⟩ := q
  exact ⟨h1.mono hs (by decide), h2.mono hs (by decide) (fun m _ _ => by omega), h3.mono hs (by decide), h4.mono hs (by decide), h5.mono hs (by decide) (by decide) (fun m _ => by omega), h6.mono hs (by decide) (by omega), ⟨hi, rfl, hc⟩, ha, h11.mono hs (fun m _ _ _ => by omega), h12.mono hs (by decide), h13⟩
theorem noteC_map (cs : List cA) (c : cA) (A : aA) (h : A.2.2.2.2.1 = cs.map Prod.fst) : aSetHs A ((noteC cs c).map Prod.fst) = aNote A c.1 := by
  unfold aNote noteC
  rw [h, List.length_map, List.map_append]
  by_cases hl : 50 ≤ cs.length
  · rw [if_pos hl, if_pos hl, List.map_drop]
    rfl
  · rw [if_neg hl, if_neg hl]
    rfl
theorem ckL_dl {hk : Nat → Nat} {t : List cA} {c : cA} (h : ckL hk (t ++ [c])) : ckL hk t := by
  induction t generalizing hk with
  | nil => trivial
  | cons d t ih =>
    refine ⟨fun h5 => ?_, fun h5 => ?_⟩
    · obtain ⟨b, h1, h2⟩ := h.1 h5
      exact ⟨b, h1, ih h2⟩
    · exact ⟨(h.2 h5).1, ih (h.2 h5).2⟩
theorem ckL_drop {hk : Nat → Nat} {cs : List cA} (h : ckL hk cs.reverse) : ckL hk (cs.drop 1).reverse := by
  cases cs with
  | nil => exact h
  | cons c t =>
    rw [List.reverse_cons] at h
    exact ckL_dl h
theorem ALs.sub {na : Nat} {hk : Nat → Nat} {cs cs' : List cA} (h : ALs na hk cs) (hs : List.Sublist cs' cs) : ALs na hk cs' := ⟨h.1, fun i hi c hc => h.2.1 i hi c (hs.subset hc), h.2.2.sublist hs⟩
theorem AcH.sub {σ : gH} {ow : Nat → Nat} {cs cs' : List cA} (h : AcH σ ow cs) (hs : ∀ c ∈ cs', c ∈ cs) : AcH σ ow cs' := fun c hc => h c (hs c hc)
/-- an act that isn't a hook's is added -/
theorem noteC_al {na : Nat} {hk : Nat → Nat} {cs : List cA} {c : cA} (h : ALs na hk cs ∧ ckL hk cs.reverse) (h5 : ¬ c.1.1 = 5) (h6 : c.1.1 = 6 → c.2 = some (hk c.1.2.1)) : ALs na hk (noteC cs c) ∧ ckL hk (noteC cs c).reverse := by
  have key : ∀ t : List cA, List.Sublist t cs → ckL hk t.reverse → ALs na hk (t ++ [c]) ∧ ckL hk (t ++ [c]).reverse := by
    intro t ht hc
    have ha := h.1.sub ht
    refine ⟨⟨ha.1, fun i hi d hd => ?_, ?_⟩, ?_⟩
    · rcases List.mem_append.mp hd with z | z
      · exact ha.2.1 i hi d z
      · rw [List.mem_singleton] at z
        subst z
        exact fun q => absurd q h5
    · refine List.pairwise_append.mpr ⟨ha.2.2, List.pairwise_singleton _ _, fun a _ b hb => ?_⟩
      rw [List.mem_singleton] at hb
      subst hb
      exact fun _ q => absurd q h5
    · rw [List.reverse_append]
      exact ⟨fun q => absurd q h5, fun _ => ⟨h6, hc⟩⟩
  unfold noteC
  split
  · exact key _ (List.drop_sublist _ _) (ckL_drop h.2)
  · exact key _ (List.Sublist.refl _) h.2
theorem noteC_acH {σ : gH} {ow : Nat → Nat} {cs : List cA} {c : cA} (h : AcH σ ow cs) (hc : c.1.1 = 5 → ∃ b, c.2 = some b ∧ HoC σ ow b c.1.2.2.2.2) : AcH σ ow (noteC cs c) := by
  intro d hd
  unfold noteC at hd
  rcases List.mem_append.mp hd with z | z
  · refine h d ?_
    split at z
    · exact List.mem_of_mem_drop z
    · exact z
  · rw [List.mem_singleton] at z
    subst z
    exact hc
section CNote
variable {l : Launch} {ow : Nat → Nat} {x : Nat} {A : aA} {ad hk : Nat → Nat} {cs : List cA} {ff : Nat → Option Nat}
/-- history.add(new Act(..)) for an act that isn't a hook's -/
theorem c_note {σ : gH} (hR : RCx σ ow x A ad hk cs ff) {q : Nat} {c : cA} (hq : AcC σ ow q c) (h5 : ¬ c.1.1 = 5) (h6 : c.1.1 = 6 → c.2 = some (hk c.1.2.1)) : Ct l mX4_add 1 0 0 [.ref (ad 6), .ref q] σ (pV fun σ' => Sm hx67 σ ow σ' ow ∧ RCx σ' ow x (aNote A c.1) ad hk (noteC cs c) ff) := by
  refine (c_X4_add hR.2.2.2.2.2.2.1.1 hq).mono ?_
  rintro v σ' ⟨rfl, hs, hh⟩
  refine ⟨rfl, hs, ?_⟩
  have e := hR.hist hs hh (noteC_acH (hR.2.2.2.2.2.2.1.2.2.mono hs (by decide) (fun m _ => by omega)) (fun z => absurd z h5)) (noteC_al hR.2.2.2.2.2.2.2.1 h5 h6)
  rw [noteC_map cs c A hR.2.2.2.2.2.2.1.2.1] at e
  exact e
end CNote
