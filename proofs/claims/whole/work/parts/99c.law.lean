/-! the law: the class's world, the reference's world and the script beside each other -/
def mL_law : gM := (yL_law, cL_law, 4, some .boolean)
theorem gU_cm {σ₁ σ₂ : gH} (h : gDj σ₁ σ₂) : gU σ₁ σ₂ = gU σ₂ σ₁ := by
  funext a
  have ha := h a
  unfold gU
  cases e1 : σ₁ a with
  | none => cases e2 : σ₂ a <;> rfl
  | some c =>
    rw [ha (by rw [e1]; simp)]
theorem gDj.sym {σ₁ σ₂ : gH} (h : gDj σ₁ σ₂) : gDj σ₂ σ₁ := by
  intro a ha
  cases e : σ₁ a with
  | none => rfl
  | some c => exact absurd (h a (by rw [e]; simp)) ha
def LW (σ : gH) (x o : Nat) (A A2 : aA) : Prop := ∃ (σ₁ σ₂ : gH) (ad : Nat → Nat) (S : mS), σ = gU σ₁ σ₂ ∧ gDj σ₁ σ₂ ∧ RC σ₁ x A ∧ Mm σ₂ o ad S ∧ RepM S A2
section LawR
variable {l : Launch} {bc bs : Nat} {post : Option Value → gH → Prop} {σ : gH} {pc : Nat} {ls : List (Option Value)} {rest : List Value} {b L : Nat} {xs : Nat → Int32} {x o : Nat} {A A2 : aA}
theorem lwXi (hW : LW σ x o A A2) {My : gM} {idx n d' mc ms : Nat} {st : List Value} {R : Int32 × aA} (As : List Value) (hd : decode mL_law.2.1 pc = .ok (.invokevirtual idx, 3)) (hk : gLk mL_law.1.cls idx My.1) (hm : gMv My n) (hn : As.length = n) (hc : RX10 = My.1.cls) (ct : ∀ τ, RC τ x A → Ct l My d' mc ms (.ref x :: As) τ (pI (cP x R))) (hdd : d' + 1 ≤ 20) (hmc : mc ≤ bc) (hms : ms ≤ bs) (hst : st = As.reverse ++ .ref x :: rest) (hcat : (rest.map fun v => v.category).sum ≤ 8)
    (kk : ∀ σ', LW σ' x o R.2 A2 → GC (sX b L xs) l mL_law 20 (bc - mc) (bs - ms) post σ' (pc + 3) ls (.int R.1 :: rest)) : GC (sX b L xs) l mL_law 20 bc bs post σ pc ls st := by
  obtain ⟨σ₁, σ₂, ad, S, rfl, h1, h3, h4, h5⟩ := hW
  obtain ⟨ow, ad', hk', cs, ff, hR⟩ := id h3
  refine gk_callVf (ci := 8) As hd hk hm hn hR.1.1 (by rw [← hc]; rfl) h1 (ct σ₁ h3) hdd hmc hms hst hcat (fun v σ' hp hdj => ?_)
  obtain ⟨r', rfl, e, hR'⟩ := hp
  subst e
  exact kk _ ⟨σ', σ₂, ad, S, rfl, hdj, hR', h4, h5⟩
theorem lwXl (hW : LW σ x o A A2) {My : gM} {idx n d' mc ms : Nat} {st : List Value} {R : Int64 × aA} (As : List Value) (hd : decode mL_law.2.1 pc = .ok (.invokevirtual idx, 3)) (hk : gLk mL_law.1.cls idx My.1) (hm : gMv My n) (hn : As.length = n) (hc : RX10 = My.1.cls) (ct : ∀ τ, RC τ x A → Ct l My d' mc ms (.ref x :: As) τ (pL (cPl x R))) (hdd : d' + 1 ≤ 20) (hmc : mc ≤ bc) (hms : ms ≤ bs) (hst : st = As.reverse ++ .ref x :: rest) (hcat : (rest.map fun v => v.category).sum ≤ 8)
    (kk : ∀ σ', LW σ' x o R.2 A2 → GC (sX b L xs) l mL_law 20 (bc - mc) (bs - ms) post σ' (pc + 3) ls (.long R.1 :: rest)) : GC (sX b L xs) l mL_law 20 bc bs post σ pc ls st := by
  obtain ⟨σ₁, σ₂, ad, S, rfl, h1, h3, h4, h5⟩ := hW
  obtain ⟨ow, ad', hk', cs, ff, hR⟩ := id h3
  refine gk_callVf (ci := 8) As hd hk hm hn hR.1.1 (by rw [← hc]; rfl) h1 (ct σ₁ h3) hdd hmc hms hst hcat (fun v σ' hp hdj => ?_)
  obtain ⟨r', rfl, e, hR'⟩ := hp
  subst e
  exact kk _ ⟨σ', σ₂, ad, S, rfl, hdj, hR', h4, h5⟩
theorem lwMi (hW : LW σ x o A A2) {My : gM} {idx n d' mc ms : Nat} {st : List Value} {R : Int32 × aA} (As : List Value) (hd : decode mL_law.2.1 pc = .ok (.invokevirtual idx, 3)) (hk : gLk mL_law.1.cls idx My.1) (hm : gMv My n) (hn : As.length = n) (hc : RX11 = My.1.cls) (ct : ∀ τ ad S, Mm τ o ad S → RepM S A2 → Ct l My d' mc ms (.ref o :: As) τ (pI (mP o ad R))) (hdd : d' + 1 ≤ 20) (hmc : mc ≤ bc) (hms : ms ≤ bs) (hst : st = As.reverse ++ .ref o :: rest) (hcat : (rest.map fun v => v.category).sum ≤ 8)
    (kk : ∀ σ', LW σ' x o A R.2 → GC (sX b L xs) l mL_law 20 (bc - mc) (bs - ms) post σ' (pc + 3) ls (.int R.1 :: rest)) : GC (sX b L xs) l mL_law 20 bc bs post σ pc ls st := by
  obtain ⟨σ₁, σ₂, ad, S, rfl, h1, h3, h4, h5⟩ := hW
  rw [gU_cm h1]
  refine gk_callVf (ci := 9) As hd hk hm hn h4.1 (by rw [← hc]; rfl) h1.sym (ct σ₂ ad S h4 h5) hdd hmc hms hst hcat (fun v σ' hp hdj => ?_)
  obtain ⟨r', rfl, e, S', hM', hR'⟩ := hp
  subst e
  rw [gU_cm hdj]
  exact kk _ ⟨σ₁, σ', ad, S', rfl, hdj.sym, h3, hM', hR'⟩
theorem lwMl (hW : LW σ x o A A2) {My : gM} {idx n d' mc ms : Nat} {st : List Value} {R : Int64 × aA} (As : List Value) (hd : decode mL_law.2.1 pc = .ok (.invokevirtual idx, 3)) (hk : gLk mL_law.1.cls idx My.1) (hm : gMv My n) (hn : As.length = n) (hc : RX11 = My.1.cls) (ct : ∀ τ ad S, Mm τ o ad S → RepM S A2 → Ct l My d' mc ms (.ref o :: As) τ (pL (mPl o ad R))) (hdd : d' + 1 ≤ 20) (hmc : mc ≤ bc) (hms : ms ≤ bs) (hst : st = As.reverse ++ .ref o :: rest) (hcat : (rest.map fun v => v.category).sum ≤ 8)
    (kk : ∀ σ', LW σ' x o A R.2 → GC (sX b L xs) l mL_law 20 (bc - mc) (bs - ms) post σ' (pc + 3) ls (.long R.1 :: rest)) : GC (sX b L xs) l mL_law 20 bc bs post σ pc ls st := by
  obtain ⟨σ₁, σ₂, ad, S, rfl, h1, h3, h4, h5⟩ := hW
  rw [gU_cm h1]
  refine gk_callVf (ci := 9) As hd hk hm hn h4.1 (by rw [← hc]; rfl) h1.sym (ct σ₂ ad S h4 h5) hdd hmc hms hst hcat (fun v σ' hp hdj => ?_)
  obtain ⟨r', rfl, e, S', hM', hR'⟩ := hp
  subst e
  rw [gU_cm hdj]
  exact kk _ ⟨σ₁, σ', ad, S', rfl, hdj.sym, h3, hM', hR'⟩
theorem mP_of {o : Nat} {ad : Nat → Nat} {S : mS} {A : aA} {σ : gH} {My : gM} {d' : Nat} {as : List Value} {r : Int32} (hM : Mm σ o ad S) (hR : RepM S A) (ct : Ct l My d' 0 0 as σ (pI fun r' σ' => r' = r ∧ σ' = σ)) : Ct l My d' 0 0 as σ (pI (mP o ad (r, A))) := by
  refine ct.mono ?_
  rintro v σ' ⟨r', rfl, e, rfl⟩
  exact ⟨r', rfl, e, S, hM, hR⟩
theorem su_gU (σ : gH) (q : Nat) (c : gC) : su σ q c = gU (su (fun _ => none) q c) σ := by
  funext a
  by_cases e : a = q <;> simp [su, gU, e]
theorem dj_su {σ : gH} {q : Nat} (c : gC) (h : σ q = none) : gDj (su (fun _ => none) q c) σ := by
  intro a ha
  by_cases e : a = q
  · rw [e]; exact h
  · simp [su, e] at ha
theorem lwI0 {q : Nat} (hmc : 23 ≤ bc) (hms : 1805 ≤ bs) (hcat : (rest.map fun v => v.category).sum ≤ 8) (kk : ∀ σ₁, RC σ₁ q A0 → GC (sX b L xs) l mL_law 20 (bc - 23) (bs - 1805) post σ₁ 7 ls rest) : GC (sX b L xs) l mL_law 20 bc bs post (su (fun _ => none) q (gO 8 [.null, .int 0, .null, .null, .null, .null, .null, .null, .int 0, .null])) 4 ls (.ref q :: rest) := by
  rw [su_gU]
  refine gk_callIf (My := mX10_init) [] dL_law_4 lkL_9 mvX10_init rfl (dj_su _ rfl) (c_X10_init (su_self _ _ _)) (by decide) hmc hms rfl hcat (fun v σ' hp hdj => ?_)
  obtain ⟨rfl, h⟩ := hp
  rw [gU_none]
  exact kk σ' h
theorem lwI1 {q : Nat} {σ₁ : gH} (hR : RC σ₁ x A0) (hq : σ₁ q = none) (hmc : 25 ≤ bc) (hms : 9988 ≤ bs) (hcat : (rest.map fun v => v.category).sum ≤ 8) (kk : ∀ σ', LW σ' x q A0 A0 → GC (sX b L xs) l mL_law 20 (bc - 25) (bs - 9988) post σ' 15 ls rest) : GC (sX b L xs) l mL_law 20 bc bs post (su σ₁ q (gO 9 [.int 0, .long 0, .int 0, .null, .null, .null, .null, .null, .null, .null, .int 0, .null, .null, .null, .null, .null, .null, .null, .long 0, .int 0, .long 0, .long 0, .int 0, .int 0, .long 0, .int 0, .null, .null, .int 0, .null, .null, .null, .null, .null, .null, .null, .null, .null, .int 0, .int 0])) 12 ls (.ref q :: rest) := by
  rw [su_gU]
  refine gk_callIf (My := mX11_init) [] dL_law_12 lkL_12 mvX11_init rfl (dj_su _ hq) (c_X11_init (su_self _ _ _)) (by decide) hmc hms rfl hcat (fun v σ' hp hdj => ?_)
  obtain ⟨rfl, a, h⟩ := hp
  rw [gU_cm hdj]
  exact kk _ ⟨σ₁, σ', a, mS0, rfl, hdj.sym, hR, h, RepM_0⟩
end LawR
