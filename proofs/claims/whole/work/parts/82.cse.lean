/-! writes into the Search -/
abbrev exS (m : Nat) : Prop := 8 ≤ m ∧ m ≤ 22 ∧ m ≠ 9
def SeY (τ σ : gH) (ow : Nat → Nat) (sr : Nat) (ad : Nat → Nat) (s4 : Int32 × Int32 × Int32 × Int32) (I : Nat → Nat → Int32) (J : Nat → Nat → Int64) : Prop := SeX σ ow sr ad s4 I J ∧ Sm exS τ ow σ ow
section SeW
variable {τ σ : gH} {ow : Nat → Nat} {sr : Nat} {ad : Nat → Nat} {s4 : Int32 × Int32 × Int32 × Int32} {I : Nat → Nat → Int32} {J : Nat → Nat → Int64}
theorem SeY.w8 (q : SeY τ σ ow sr ad s4 I J) (a b c d : Int32) : SeY τ (su σ sr (SeO ad a b c d)) ow sr ad (a, b, c, d) I J := by
  obtain ⟨⟨h1, ⟨h2, h3, h4⟩, h5, h6, h7, h8, h9, h10, h11, h12⟩, hy⟩ := q
  have hs : Sm (fun m => m = 8) σ ow (su σ sr (SeO ad a b c d)) ow := Sm.stp h1.2 _
  exact ⟨⟨h1.up _, ⟨h2.mono hs (by decide), h3.mono hs (by decide), h4.mono hs (by decide)⟩, fun k hk => (h5 k hk).mono hs (by omega), h6.mono hs (by decide), h7.mono hs (by decide), h8.mono hs (by decide), h9.mono hs (by decide), h10.mono hs (by decide), h11.mono hs (by decide), h12.mono hs (by decide)⟩, hy.tr (hs.wk (fun m e => by subst e; decide))⟩
theorem SeY.w10 (q : SeY τ σ ow sr ad s4 I J) (f : Nat → Int32) : SeY τ (su σ (ad 10) (gAi 13 f)) ow sr ad s4 (va_up I 10 f) J := by
  obtain ⟨⟨h1, ⟨h2, h3, h4⟩, h5, h6, h7, h8, h9, h10, h11, h12⟩, hy⟩ := q
  have hs : Sm (fun m => m = 10) σ ow (su σ (ad 10) (gAi 13 f)) ow := Sm.stp h2.2 _
  exact ⟨⟨h1.mono hs (by decide), ⟨h2.up _, h3.mono hs (by decide), h4.mono hs (by decide)⟩, fun k hk => (h5 k hk).mono hs (by omega), h6.mono hs (by decide), h7.mono hs (by decide), h8.mono hs (by decide), h9.mono hs (by decide), h10.mono hs (by decide), h11.mono hs (by decide), h12.mono hs (by decide)⟩, hy.tr (hs.wk (fun m e => by subst e; decide))⟩
theorem SeY.w11 (q : SeY τ σ ow sr ad s4 I J) (f : Nat → Int64) : SeY τ (su σ (ad 11) (gAl 256 f)) ow sr ad s4 I (va_up J 11 f) := by
  obtain ⟨⟨h1, ⟨h2, h3, h4⟩, h5, h6, h7, h8, h9, h10, h11, h12⟩, hy⟩ := q
  have hs : Sm (fun m => m = 11) σ ow (su σ (ad 11) (gAl 256 f)) ow := Sm.stp h3.2 _
  exact ⟨⟨h1.mono hs (by decide), ⟨h2.mono hs (by decide), h3.up _, h4.mono hs (by decide)⟩, fun k hk => by rw [show va_up J 11 f (13 + k) = J (13 + k) from va_up_ne _ _ (by omega)]; exact (h5 k hk).mono hs (by omega), h6.mono hs (by decide), h7.mono hs (by decide), h8.mono hs (by decide), h9.mono hs (by decide), h10.mono hs (by decide), h11.mono hs (by decide), h12.mono hs (by decide)⟩, hy.tr (hs.wk (fun m e => by subst e; decide))⟩
theorem SeY.w16 (q : SeY τ σ ow sr ad s4 I J) (f : Nat → Int32) : SeY τ (su σ (ad 16) (gAi 3 f)) ow sr ad s4 (va_up I 16 f) J := by
  obtain ⟨⟨h1, ⟨h2, h3, h4⟩, h5, h6, h7, h8, h9, h10, h11, h12⟩, hy⟩ := q
  have hs : Sm (fun m => m = 16) σ ow (su σ (ad 16) (gAi 3 f)) ow := Sm.stp h6.2 _
  exact ⟨⟨h1.mono hs (by decide), ⟨h2.mono hs (by decide), h3.mono hs (by decide), h4.mono hs (by decide)⟩, fun k hk => (h5 k hk).mono hs (by omega), h6.up _, h7.mono hs (by decide), h8.mono hs (by decide), h9.mono hs (by decide), h10.mono hs (by decide), h11.mono hs (by decide), h12.mono hs (by decide)⟩, hy.tr (hs.wk (fun m e => by subst e; decide))⟩
theorem SeY.w17 (q : SeY τ σ ow sr ad s4 I J) (f : Nat → Int32) : SeY τ (su σ (ad 17) (gAi 144 f)) ow sr ad s4 (va_up I 17 f) J := by
  obtain ⟨⟨h1, ⟨h2, h3, h4⟩, h5, h6, h7, h8, h9, h10, h11, h12⟩, hy⟩ := q
  have hs : Sm (fun m => m = 17) σ ow (su σ (ad 17) (gAi 144 f)) ow := Sm.stp h7.2 _
  exact ⟨⟨h1.mono hs (by decide), ⟨h2.mono hs (by decide), h3.mono hs (by decide), h4.mono hs (by decide)⟩, fun k hk => (h5 k hk).mono hs (by omega), h6.mono hs (by decide), h7.up _, h8.mono hs (by decide), h9.mono hs (by decide), h10.mono hs (by decide), h11.mono hs (by decide), h12.mono hs (by decide)⟩, hy.tr (hs.wk (fun m e => by subst e; decide))⟩
theorem SeY.w18 (q : SeY τ σ ow sr ad s4 I J) (f : Nat → Int32) : SeY τ (su σ (ad 18) (gAi 144 f)) ow sr ad s4 (va_up I 18 f) J := by
  obtain ⟨⟨h1, ⟨h2, h3, h4⟩, h5, h6, h7, h8, h9, h10, h11, h12⟩, hy⟩ := q
  have hs : Sm (fun m => m = 18) σ ow (su σ (ad 18) (gAi 144 f)) ow := Sm.stp h8.2 _
  exact ⟨⟨h1.mono hs (by decide), ⟨h2.mono hs (by decide), h3.mono hs (by decide), h4.mono hs (by decide)⟩, fun k hk => (h5 k hk).mono hs (by omega), h6.mono hs (by decide), h7.mono hs (by decide), h8.up _, h9.mono hs (by decide), h10.mono hs (by decide), h11.mono hs (by decide), h12.mono hs (by decide)⟩, hy.tr (hs.wk (fun m e => by subst e; decide))⟩
theorem SeY.w19 (q : SeY τ σ ow sr ad s4 I J) (f : Nat → Int64) : SeY τ (su σ (ad 19) (gAl 144 f)) ow sr ad s4 I (va_up J 19 f) := by
  obtain ⟨⟨h1, ⟨h2, h3, h4⟩, h5, h6, h7, h8, h9, h10, h11, h12⟩, hy⟩ := q
  have hs : Sm (fun m => m = 19) σ ow (su σ (ad 19) (gAl 144 f)) ow := Sm.stp h9.2 _
  exact ⟨⟨h1.mono hs (by decide), ⟨h2.mono hs (by decide), h3.mono hs (by decide), h4.mono hs (by decide)⟩, fun k hk => by rw [show va_up J 19 f (13 + k) = J (13 + k) from va_up_ne _ _ (by omega)]; exact (h5 k hk).mono hs (by omega), h6.mono hs (by decide), h7.mono hs (by decide), h8.mono hs (by decide), h9.up _, h10.mono hs (by decide), h11.mono hs (by decide), h12.mono hs (by decide)⟩, hy.tr (hs.wk (fun m e => by subst e; decide))⟩
theorem SeY.w20 (q : SeY τ σ ow sr ad s4 I J) (f : Nat → Int32) : SeY τ (su σ (ad 20) (gAi 144 f)) ow sr ad s4 (va_up I 20 f) J := by
  obtain ⟨⟨h1, ⟨h2, h3, h4⟩, h5, h6, h7, h8, h9, h10, h11, h12⟩, hy⟩ := q
  have hs : Sm (fun m => m = 20) σ ow (su σ (ad 20) (gAi 144 f)) ow := Sm.stp h10.2 _
  exact ⟨⟨h1.mono hs (by decide), ⟨h2.mono hs (by decide), h3.mono hs (by decide), h4.mono hs (by decide)⟩, fun k hk => (h5 k hk).mono hs (by omega), h6.mono hs (by decide), h7.mono hs (by decide), h8.mono hs (by decide), h9.mono hs (by decide), h10.up _, h11.mono hs (by decide), h12.mono hs (by decide)⟩, hy.tr (hs.wk (fun m e => by subst e; decide))⟩
theorem SeY.w21 (q : SeY τ σ ow sr ad s4 I J) (f : Nat → Int32) : SeY τ (su σ (ad 21) (gAi 3 f)) ow sr ad s4 (va_up I 21 f) J := by
  obtain ⟨⟨h1, ⟨h2, h3, h4⟩, h5, h6, h7, h8, h9, h10, h11, h12⟩, hy⟩ := q
  have hs : Sm (fun m => m = 21) σ ow (su σ (ad 21) (gAi 3 f)) ow := Sm.stp h11.2 _
  exact ⟨⟨h1.mono hs (by decide), ⟨h2.mono hs (by decide), h3.mono hs (by decide), h4.mono hs (by decide)⟩, fun k hk => (h5 k hk).mono hs (by omega), h6.mono hs (by decide), h7.mono hs (by decide), h8.mono hs (by decide), h9.mono hs (by decide), h10.mono hs (by decide), h11.up _, h12.mono hs (by decide)⟩, hy.tr (hs.wk (fun m e => by subst e; decide))⟩
theorem SeY.w22 (q : SeY τ σ ow sr ad s4 I J) (f : Nat → Int32) : SeY τ (su σ (ad 22) (gAi 3 f)) ow sr ad s4 (va_up I 22 f) J := by
  obtain ⟨⟨h1, ⟨h2, h3, h4⟩, h5, h6, h7, h8, h9, h10, h11, h12⟩, hy⟩ := q
  have hs : Sm (fun m => m = 22) σ ow (su σ (ad 22) (gAi 3 f)) ow := Sm.stp h12.2 _
  exact ⟨⟨h1.mono hs (by decide), ⟨h2.mono hs (by decide), h3.mono hs (by decide), h4.mono hs (by decide)⟩, fun k hk => (h5 k hk).mono hs (by omega), h6.mono hs (by decide), h7.mono hs (by decide), h8.mono hs (by decide), h9.mono hs (by decide), h10.mono hs (by decide), h11.mono hs (by decide), h12.up _⟩, hy.tr (hs.wk (fun m e => by subst e; decide))⟩
theorem SeY.wr (q : SeY τ σ ow sr ad s4 I J) {k : Nat} (hk : k < 3) (f : Nat → Int64) : SeY τ (su σ (ad (13 + k)) (gAl 256 f)) ow sr ad s4 I (va_up J (13 + k) f) := by
  obtain ⟨⟨h1, ⟨h2, h3, h4⟩, h5, h6, h7, h8, h9, h10, h11, h12⟩, hy⟩ := q
  have hs : Sm (fun m => m = 13 + k) σ ow (su σ (ad (13 + k)) (gAl 256 f)) ow := Sm.stp (ex := fun m => m = 13 + k) (ow := ow) (b := ad (13 + k)) (h5 k hk).2 _
  have e11 : va_up J (13 + k) f 11 = J 11 := va_up_ne _ _ (by omega)
  have e19 : va_up J (13 + k) f 19 = J 19 := va_up_ne _ _ (by omega)
  refine ⟨⟨h1.mono hs (by omega), ⟨h2.mono hs (by omega), by rw [e11]; exact h3.mono hs (by omega), h4.mono hs (by omega)⟩, fun j hj => ?_, h6.mono hs (by omega), h7.mono hs (by omega), h8.mono hs (by omega), by rw [e19]; exact h9.mono hs (by omega), h10.mono hs (by omega), h11.mono hs (by omega), h12.mono hs (by omega)⟩, hy.tr (hs.wk (fun m e => ⟨by omega, by omega, by omega⟩))⟩
  by_cases e : j = k
  · subst e
    rw [va_up_self]
    exact (h5 j hj).up _
  · rw [va_up_ne _ _ (show 13 + j ≠ 13 + k by omega)]
    exact (h5 j hj).mono hs (by omega)
end SeW
