/-! G: contracts and calls -/
def gLk (own : String) (idx : Nat) (y : MethodName) : Prop := Cond.methodLink own idx y ∈ lw_g ∨ ∃ host, gNk (Cond.methodLinkNest own idx y host)
def gMo (M : gM) (n : Nat) : Prop := Cond.code M.1 M.2.1 M.2.2.1 M.2.2.2 ∈ lw_g ∧ Cond.initialized M.1.cls ∈ lw_g ∧ (M.1.cls ≠ "java/lang/invoke/MethodHandle" ∧ M.1.cls ≠ "java/lang/invoke/VarHandle" ∧ (parseMethodDescriptor M.1.desc).map (fun d => d.parameters.length) = some n) ∧ M.2.2.1 ≤ 45 ∧ plainName M.1.cls = true
def gMv (M : gM) (n : Nat) : Prop := gMo M n ∧ Cond.instanceMethod M.1 ∈ lw_g ∧ Cond.selects M.1.cls M.1 M.1 ∈ lw_g
def gMs (M : gM) (n : Nat) : Prop := gMo M n ∧ Cond.static M.1 ∈ lw_g
def gMi (M : gM) (n : Nat) : Prop := gMo M n ∧ Cond.instanceMethod M.1 ∈ lw_g ∧ M.1.name = "<init>" ∧ M.2.2.2 = none
def gWs (M : gM) : List Cond := .code M.1 M.2.1 M.2.2.1 M.2.2.2 :: lw_g
theorem gGood {M : gM} {n : Nat} (h : gMo M n) : GoodIn lw_g (gWs M) := by
  intro w hw
  have hm : w ∈ lw_g := by
    rcases List.mem_cons.mp hw with e | e
    · rw [e]; exact h.1
    · exact e
  exact ⟨hm, good_of_word (List.mem_filter.mp hm).2⟩
def gRm (d mc ms : Nat) : Room := { frames := d, cells := mc, slots := ms, locals := 64 * d }
def gB (D : va_G) (aC : FieldType → ClassId) (σ : gH) (sz : Nat) (U : State) : Prop := U.heap.size = sz ∧ gHold D aC σ (gA σ sz) U.heap ∧ va_K D gcl (gT aC) U ∧ gSt (gA σ sz) U U.heap ∧ gNg U
/-- a method's contract: from a heap that holds σ it returns v, the heap then holds σ', and post v σ' -/
def Ct (l : Launch) (M : gM) (d mc ms : Nat) (as : List Value) (σ : gH) (post : Option Value → gH → Prop) : Prop :=
  ∀ (D : va_G) (aC : FieldType → ClassId) (sz : Nat), Met l M.1 (gWs M) (gRm d mc ms) (va_Pc as (gB D aC σ sz)) (gQ D aC (gA σ sz) post) mc ms (gA σ sz)
theorem Ct.mono {l : Launch} {M : gM} {d mc ms : Nat} {as : List Value} {σ : gH} {post post' : Option Value → gH → Prop} (h : Ct l M d mc ms as σ post') (hp : ∀ v σ', post' v σ' → post v σ') : Ct l M d mc ms as σ post := by
  intro D aC sz
  have hM := h D aC sz
  unfold Met at hM ⊢
  intro p e ha hc hk s m args below hf happ hP hk'
  obtain ⟨k, o, h1, h2, h3, ⟨⟨⟨v, σ1, c1, c2, c3⟩, c4⟩, h5⟩⟩ := hM p e ha hc hk s m args below hf happ hP hk'
  exact ⟨k, o, h1, h2, h3, ⟨⟨⟨v, σ1, c1, hp v σ1 c2, c3⟩, c4⟩, h5⟩⟩
theorem gHold.self {D : va_G} {aC : FieldType → ClassId} {σ : gH} {A : Nat → Prop} {H : Heap} (h : gHold D aC σ A H) (sz : Nat) : gHold D aC σ (gA σ sz) H := fun a c hc => ⟨(h a c hc).1, Or.inl (by rw [hc]; exact fun q => by cases q)⟩
theorem Ct_of {l : Launch} {M : gM} {d mc ms n : Nat} {as : List Value} {σ : gH} {post : Option Value → gH → Prop} (hm : gMo M n) (ls : List (Option Value)) (hls : gLv 0 ls = lv_args 0 as) (hle : (lg_sl as).length ≤ M.2.2.1) (h : G l M d mc ms post σ 0 ls []) : Ct l M d mc ms as σ post := by
  intro D aC sz
  refine Met.ofW (cc := M.2.1) (maxL := M.2.2.1) (ret := M.2.2.2) hm.2.2.2.2 rfl ?_
  intro p e s m args below meth c s₁ B hml hv
  obtain ⟨rfl, hsz, hH, hK, hSt, hNg⟩ := hv
  subst hsz
  have hts : ∀ w ∈ lw_g, w.before as.toArray s = true := fun w hw => atoms_spec (ws := gWs M) B.pre w (List.mem_cons_of_mem _ hw)
  have hl := lv_entry as (n := M.2.2.1) hle
  rw [lg_entry_eq]
  generalize (lg_sl as ++ List.replicate (M.2.2.1 - (lg_sl as).length) Slot.unset).toArray = lsA at hl ⊢
  rw [← hls] at hl
  exact h p e _ s m as.toArray below meth c D aC (gA σ s.heap.size) mc ms ⟨B.exec, B.bytes, hml, findClass_of_methodNamed B.named, hts, B.returns, B.notSynchronized, (name_of_methodNamed B.named B.method).1, hK, fun q hq => Or.inr hq, hSt, Nat.le_refl _, Nat.le_refl _, hNg⟩ s.heap [] 0 0 lsA hH va_S.rf (by omega) (by omega) (Nat.le_refl _) (Nat.le_refl _) hl
section GCall
variable {l : Launch} {M : gM} {d bc bs : Nat} {post : Option Value → gH → Prop} {σ : gH} {pc : Nat} {ls : List (Option Value)} {rest : List Value}
/-- what a caller gives to a callee whose world σ₁ is a part of the caller's -/
theorem gPre {D : va_G} {aC : FieldType → ClassId} {σ₁ : gH} {A : Nat → Prop} {s : State} {H : Heap} {locs : List Loc} (hH : gHold D aC σ₁ A H) (hK : va_K D gcl (gT aC) s) (hA : ∀ q, s.heap.size ≤ q → A q) (hSt : gSt A s s.heap) (hNg : gNg s) (hS : va_S A s.heap H locs) (as : List Value) :
    FrameBlind (va_Pc as (gB D aC σ₁ H.size)) ∧ ∀ U : State, U.heap = H → s.WarmedH U.vm → va_Pc as (gB D aC σ₁ H.size) as.toArray U := by
  refine ⟨fun a U g mk q => ?_, fun U hU hW => ⟨rfl, by rw [hU], by rw [hU]; exact hH.self _, va_K.moved hW.alike hK, ?_, hNg.warm hW⟩⟩
  · obtain ⟨q0, q1, q2, q3, q4, q5⟩ := q
    exact ⟨q0, q1, q2, va_K.moved (u := U) (U := U.calling g mk a) (Vm.Alike.refl U.vm) q3, q4.go (V := U.calling g mk a) (Vm.Alike.refl U.vm) (fun _ _ _ => rfl) (fun _ h => h), q5.same rfl⟩
  · rw [hU]
    refine hSt.go hW.alike hS.2.1 (fun q hq => ?_)
    rcases hq with hq | hq
    · cases e : σ₁ q with
      | none => exact absurd e hq
      | some x => exact (hH q x e).2
    · exact hA q (Nat.le_trans hS.1 hq)
/-- two worlds beside each other: the first one's cells go first -/
def gU (σ₁ σ₂ : gH) : gH := fun a => match σ₁ a with
  | some c => some c
  | none => σ₂ a
theorem gU_none (σ : gH) : gU σ (fun _ => none) = σ := by
  funext a
  unfold gU
  cases σ a <;> rfl
def gDj (σ₁ σ₂ : gH) : Prop := ∀ b, σ₁ b ≠ none → σ₂ b = none
theorem g_run {p : Program} {e : Env} {R : Room} {s : State} {m : MethodId} {args : Array Value} {below : List Frame} {meth : Method} {c : Code} {D : va_G} {aC : FieldType → ClassId} {A : Nat → Prop} {k0 n0 mc ms : Nat} {σ₁ σ₂ : gH} {H : Heap} {locs : List Loc} {cells slots : Nat} {lsA : Array Slot} {post' : Option Value → gH → Prop} {a : Array Value} {st : List Value}
    (X : gX p R s m args meth c M d D aC A) (hdj : gDj σ₁ σ₂) (hH : gHold D aC (gU σ₁ σ₂) A H) (hS : va_S A s.heap H locs) (h1 : cells + bc ≤ k0) (h2 : slots + bs ≤ n0) (h3 : k0 ≤ R.cells) (h4 : n0 ≤ R.slots) (hl : lv_has lsA M.2.2.1 (gLv 0 ls)) (hmc : mc ≤ bc) (hms : ms ≤ bs)
    (hr : va_Run p l e R s m args below meth c H locs cells slots mc ms (F0 m pc lsA st) rest (gQ D aC (gA σ₁ H.size) post' a) (gA σ₁ H.size))
    (kk : ∀ v σ', post' v σ' → gDj σ' σ₂ → G l M d (bc - mc) (bs - ms) post (gU σ' σ₂) (pc + 3) ls (v.toList ++ rest)) : W p l e R s m args below meth c H locs cells slots (MQ below (gQ D aC A post) args s k0 n0 A) (F0 m pc lsA st) := by
  have hA1 : ∀ q, gA σ₁ H.size q → A q := by
    intro q hq
    rcases hq with hq | hq
    · cases e1 : σ₁ q with
      | none => exact absurd e1 hq
      | some x => exact (hH q x (by simp [gU, e1])).2
    · exact X.2.2.2.2.2.2.2.2.2.1 q (Nat.le_trans hS.1 hq)
  intro T hT Xs
  obtain ⟨v, st₀, t, T', L, h0, X', hL, e1, e2, ⟨⟨v', σ', hv, hp, hH1⟩, hz, hk⟩, st'⟩ := hr T hT Xs
  cases hv
  rw [h0] at hz hk
  rw [← e1] at hH1 hz hk
  have hS' : va_S A s.heap T'.heap (locs ++ L) := ⟨Nat.le_trans hS.1 hz, fun q g1 g2 => by rw [hk q (Nat.lt_of_lt_of_le g1 hS.1) (fun z => g2 (hA1 q z))]; exact hS.2.1 q g1 g2, fun q hq => by
    rcases List.mem_append.mp hq with h | h
    · exact hS.2.2 q h
    · exact hA1 _ (hL q h)⟩
  have hout : ∀ b x, σ₂ b = some x → σ₁ b = none ∧ va_at D gcl (b, gE aC x) H ∧ A b := by
    intro b x hb
    have h5 : σ₁ b = none := by
      cases e4 : σ₁ b with
      | none => rfl
      | some y => rw [hdj b (by rw [e4]; exact fun q => by cases q)] at hb; cases hb
    exact ⟨h5, hH b x (by simp [gU, h5, hb])⟩
  have hdj' : gDj σ' σ₂ := by
    intro b hb
    cases e3 : σ' b with
    | none => exact absurd e3 hb
    | some y =>
      cases e5 : σ₂ b with
      | none => rfl
      | some x =>
        obtain ⟨g1, g2, -⟩ := hout b x e5
        rcases (hH1 b y e3).2 with z | z
        · exact absurd g1 z
        · exact absurd g2.lt (Nat.not_lt.mpr z)
  have hH' : gHold D aC (gU σ' σ₂) A T'.heap := by
    intro b x hb
    cases e3 : σ' b with
    | some y =>
      simp only [gU, e3] at hb
      cases hb
      exact ⟨(hH1 b _ e3).1, hA1 _ (hH1 b _ e3).2⟩
    | none =>
      simp only [gU, e3] at hb
      obtain ⟨g1, g2, g3⟩ := hout b x hb
      refine ⟨g2.kept (hk b g2.lt (fun z => ?_)), g3⟩
      rcases z with z | z
      · exact z g1
      · exact absurd g2.lt (Nat.not_lt.mpr z)
  obtain ⟨t2, a1, b1⟩ := kk v σ' hp hdj' p e R s m args below meth c D aC A k0 n0 X T'.heap (locs ++ L) (cells + mc) (slots + ms) lsA hH' hS' (by omega) (by omega) h3 h4 hl T' rfl X'
  exact ⟨t2, st' t2 a1, b1⟩
theorem gHold.left {D : va_G} {aC : FieldType → ClassId} {σ₁ σ₂ : gH} {A : Nat → Prop} {H : Heap} (h : gHold D aC (gU σ₁ σ₂) A H) : gHold D aC σ₁ A H := fun a c hc => h a c (by simp [gU, hc])
theorem g_fix {p : Program} {R : Room} {s : State} {m : MethodId} {args : Array Value} {meth : Method} {c : Code} {D : va_G} {aC : FieldType → ClassId} {A : Nat → Prop} (X : gX p R s m args meth c M d D aC A) : CallFix p m c M.2.1 M.2.2.1 s args lw_g M.1.cls := ⟨X.1, X.2.1, X.2.2.1, X.2.2.2.1, X.2.2.2.2.1⟩
theorem g_rm {R : Room} {My : gM} {d' mc ms n : Nat} (hm : gMo My n) (hd1 : d ≤ R.frames) (hd2 : 64 * d ≤ R.locals) (hdd : d' + 1 ≤ d) : (gRm d' mc ms).frames + 1 ≤ R.frames ∧ 8 + (My.2.2.1 + 11) + (gRm d' mc ms).locals ≤ R.locals := by
  have := hm.2.2.2.1
  refine ⟨Nat.le_trans hdd hd1, ?_⟩
  show 8 + (My.2.2.1 + 11) + 64 * d' ≤ R.locals
  omega
/-- invokevirtual, the callee's world a part of the caller's -/
theorem g_callVf {My : gM} {idx n d' mc ms b ci : Nat} {fs : List Value} {σ₁ σ₂ : gH} {post' : Option Value → gH → Prop} {st : List Value} (As : List Value) (hd : decode M.2.1 pc = .ok (.invokevirtual idx, 3)) (hk : gLk M.1.cls idx My.1) (hm : gMv My n) (hn : As.length = n) (hb : σ₁ b = some (gO ci fs)) (hc : (gcl[ci]?).map (fun q => q.1) = some My.1.cls) (hdj : gDj σ₁ σ₂) (ct : Ct l My d' mc ms (.ref b :: As) σ₁ post') (hdd : d' + 1 ≤ d) (hmc : mc ≤ bc) (hms : ms ≤ bs) (hst : st = As.reverse ++ .ref b :: rest) (hcat : (rest.map fun v => v.category).sum ≤ 8)
    (kk : ∀ v σ', post' v σ' → gDj σ' σ₂ → G l M d (bc - mc) (bs - ms) post (gU σ' σ₂) (pc + 3) ls (v.toList ++ rest)) : G l M d bc bs post (gU σ₁ σ₂) pc ls st := by
  intro p e R s m args below meth c D aC A k0 n0 X H locs cells slots lsA hH hS h1 h2 h3 h4 hl
  have hts := X.2.2.2.2.1
  have hK := X.2.2.2.2.2.2.2.2.1
  obtain ⟨q, hq, hq1⟩ := Option.map_eq_some_iff.mp hc
  have hrm := g_rm (mc := mc) (ms := ms) hm.1 X.2.2.2.2.2.2.2.2.2.2.2.1 X.2.2.2.2.2.2.2.2.2.2.2.2.1 hdd
  have hH1 := hH.left
  have hpre := gPre hH1 hK X.2.2.2.2.2.2.2.2.2.1 X.2.2.2.2.2.2.2.2.2.2.1 X.2.2.2.2.2.2.2.2.2.2.2.2.2 hS (.ref b :: As)
  have hrec := va_recv hK (gP1 (hH1 b _ hb).1) hq (q0 := 0) rfl
  rw [hq1] at hrec
  have hPV : PreV s H My.1.cls b (va_Pc (.ref b :: As) (gB D aC σ₁ H.size)) As := ⟨hpre.1, hrec, hpre.2⟩
  refine g_run (a := (Value.ref b :: As).toArray) X hdj hH hS h1 h2 h3 h4 hl hmc hms ?_ kk
  rcases hk with hk | ⟨host, hk⟩
  · exact va_runV (g_fix X) (ct D aC H.size) ⟨callB_of (ws' := lw_g) n hts (gGood hm.1) rfl rfl rfl (hts _ hm.1.2.1) (hts _ hk) hm.1.2.2.1 hrm, hts _ hm.2.1, hts _ hm.2.2⟩ hPV rfl hn hl.1 hst (lv_room hcat) hd ⟨by omega, by omega⟩
  · exact va_runVN (host := host) (g_fix X) (ct D aC H.size) ⟨va_cnB (ws' := lw_g) n hts (gGood hm.1) rfl rfl rfl (hk.2 _ X.2.2.2.2.2.2.2.2.2.2.2.2.2) (hts _ hm.1.2.1) hm.1.2.2.1 hrm, hts _ hm.2.1, hts _ hm.2.2⟩ hPV rfl hn hl.1 hst (lv_room hcat) hd ⟨by omega, by omega⟩
theorem g_callV {My : gM} {idx n d' mc ms b ci : Nat} {fs : List Value} {post' : Option Value → gH → Prop} {st : List Value} (As : List Value) (hd : decode M.2.1 pc = .ok (.invokevirtual idx, 3)) (hk : gLk M.1.cls idx My.1) (hm : gMv My n) (hn : As.length = n) (hb : σ b = some (gO ci fs)) (hc : (gcl[ci]?).map (fun q => q.1) = some My.1.cls) (ct : Ct l My d' mc ms (.ref b :: As) σ post') (hdd : d' + 1 ≤ d) (hmc : mc ≤ bc) (hms : ms ≤ bs) (hst : st = As.reverse ++ .ref b :: rest) (hcat : (rest.map fun v => v.category).sum ≤ 8)
    (kk : ∀ v σ', post' v σ' → G l M d (bc - mc) (bs - ms) post σ' (pc + 3) ls (v.toList ++ rest)) : G l M d bc bs post σ pc ls st := by
  have h := g_callVf (l := l) (M := M) (d := d) (bc := bc) (bs := bs) (post := post) (pc := pc) (ls := ls) (σ₁ := σ) (σ₂ := fun _ => none) As hd hk hm hn hb hc (fun _ _ => rfl) ct hdd hmc hms hst hcat (fun v σ' hp _ => by rw [gU_none]; exact kk v σ' hp)
  rw [gU_none] at h
  exact h
theorem g_callS {My : gM} {idx n d' mc ms : Nat} {post' : Option Value → gH → Prop} {st : List Value} (As : List Value) (hd : decode M.2.1 pc = .ok (.invokestatic idx, 3)) (hk : gLk M.1.cls idx My.1) (hm : gMs My n) (hn : As.length = n) (ct : Ct l My d' mc ms As σ post') (hdd : d' + 1 ≤ d) (hmc : mc ≤ bc) (hms : ms ≤ bs) (hst : st = As.reverse ++ rest) (hcat : (rest.map fun v => v.category).sum ≤ 8)
    (kk : ∀ v σ', post' v σ' → G l M d (bc - mc) (bs - ms) post σ' (pc + 3) ls (v.toList ++ rest)) : G l M d bc bs post σ pc ls st := by
  intro p e R s m args below meth c D aC A k0 n0 X H locs cells slots lsA hH hS h1 h2 h3 h4 hl
  have hts := X.2.2.2.2.1
  have hK := X.2.2.2.2.2.2.2.2.1
  have hrm := g_rm (mc := mc) (ms := ms) hm.1 X.2.2.2.2.2.2.2.2.2.2.2.1 X.2.2.2.2.2.2.2.2.2.2.2.2.1 hdd
  have hpre := gPre hH hK X.2.2.2.2.2.2.2.2.2.1 X.2.2.2.2.2.2.2.2.2.2.1 X.2.2.2.2.2.2.2.2.2.2.2.2.2 hS As
  refine g_run (a := As.toArray) (σ₁ := σ) (σ₂ := fun _ => none) X (fun _ _ => rfl) (by rw [gU_none]; exact hH) hS h1 h2 h3 h4 hl hmc hms ?_ (fun v σ' hp _ => by rw [gU_none]; exact kk v σ' hp)
  rcases hk with hk | ⟨host, hk⟩
  · exact va_runS (g_fix X) (ct D aC H.size) ⟨callB_of (ws' := lw_g) n hts (gGood hm.1) rfl rfl rfl (hts _ hm.1.2.1) (hts _ hk) hm.1.2.2.1 hrm, hts _ hm.2⟩ hpre rfl hn hl.1 hst (lv_room hcat) hd ⟨by omega, by omega⟩
  · exact va_runSN (host := host) (g_fix X) (ct D aC H.size) ⟨va_cnB (ws' := lw_g) n hts (gGood hm.1) rfl rfl rfl (hk.2 _ X.2.2.2.2.2.2.2.2.2.2.2.2.2) (hts _ hm.1.2.1) hm.1.2.2.1 hrm, hts _ hm.2, trivial⟩ hpre rfl hn hl.1 hst (lv_room hcat) hd ⟨by omega, by omega⟩
theorem g_callIf {My : gM} {idx n d' mc ms b : Nat} {σ₁ σ₂ : gH} {post' : Option Value → gH → Prop} {st : List Value} (As : List Value) (hd : decode M.2.1 pc = .ok (.invokespecial idx, 3)) (hk : gLk M.1.cls idx My.1) (hm : gMi My n) (hn : As.length = n) (hdj : gDj σ₁ σ₂) (ct : Ct l My d' mc ms (.ref b :: As) σ₁ post') (hdd : d' + 1 ≤ d) (hmc : mc ≤ bc) (hms : ms ≤ bs) (hst : st = As.reverse ++ .ref b :: rest) (hcat : (rest.map fun v => v.category).sum ≤ 8)
    (kk : ∀ v σ', post' v σ' → gDj σ' σ₂ → G l M d (bc - mc) (bs - ms) post (gU σ' σ₂) (pc + 3) ls (v.toList ++ rest)) : G l M d bc bs post (gU σ₁ σ₂) pc ls st := by
  intro p e R s m args below meth c D aC A k0 n0 X H locs cells slots lsA hH hS h1 h2 h3 h4 hl
  have hts := X.2.2.2.2.1
  have hK := X.2.2.2.2.2.2.2.2.1
  have hrm := g_rm (mc := mc) (ms := ms) hm.1 X.2.2.2.2.2.2.2.2.2.2.2.1 X.2.2.2.2.2.2.2.2.2.2.2.2.1 hdd
  have hH1 := hH.left
  have hpre := gPre hH1 hK X.2.2.2.2.2.2.2.2.2.1 X.2.2.2.2.2.2.2.2.2.2.1 X.2.2.2.2.2.2.2.2.2.2.2.2.2 hS (.ref b :: As)
  have hw : gWs My = Cond.code My.1 My.2.1 My.2.2.1 none :: lw_g := by unfold gWs; rw [hm.2.2.2]
  refine g_run (a := (Value.ref b :: As).toArray) X hdj hH hS h1 h2 h3 h4 hl hmc hms ?_ kk
  rcases hk with hk | ⟨host, hk⟩
  · exact va_runI (g_fix X) (ct D aC H.size) ⟨callB_of (ws' := lw_g) n hts (gGood hm.1) hw rfl rfl (hts _ hm.1.2.1) (hts _ hk) hm.1.2.2.1 hrm, hm.2.2.1, hts _ hm.2.1⟩ hpre rfl hn hl.1 hst (lv_room hcat) hd ⟨by omega, by omega⟩
  · exact va_runIN (host := host) (g_fix X) (ct D aC H.size) ⟨va_cnB (ws' := lw_g) n hts (gGood hm.1) hw rfl rfl (hk.2 _ X.2.2.2.2.2.2.2.2.2.2.2.2.2) (hts _ hm.1.2.1) hm.1.2.2.1 hrm, hm.2.2.1, hts _ hm.2.1⟩ hpre rfl hn hl.1 hst (lv_room hcat) hd ⟨by omega, by omega⟩
theorem g_callI {My : gM} {idx n d' mc ms b : Nat} {post' : Option Value → gH → Prop} {st : List Value} (As : List Value) (hd : decode M.2.1 pc = .ok (.invokespecial idx, 3)) (hk : gLk M.1.cls idx My.1) (hm : gMi My n) (hn : As.length = n) (ct : Ct l My d' mc ms (.ref b :: As) σ post') (hdd : d' + 1 ≤ d) (hmc : mc ≤ bc) (hms : ms ≤ bs) (hst : st = As.reverse ++ .ref b :: rest) (hcat : (rest.map fun v => v.category).sum ≤ 8)
    (kk : ∀ v σ', post' v σ' → G l M d (bc - mc) (bs - ms) post σ' (pc + 3) ls (v.toList ++ rest)) : G l M d bc bs post σ pc ls st := by
  have h := g_callIf (l := l) (M := M) (d := d) (bc := bc) (bs := bs) (post := post) (pc := pc) (ls := ls) (σ₁ := σ) (σ₂ := fun _ => none) As hd hk hm hn (fun _ _ => rfl) ct hdd hmc hms hst hcat (fun v σ' hp _ => by rw [gU_none]; exact kk v σ' hp)
  rw [gU_none] at h
  exact h
end GCall
/-! typed ends of contracts -/
def pI (f : Int32 → gH → Prop) : Option Value → gH → Prop := fun v σ => ∃ r, v = some (.int r) ∧ f r σ
def pL (f : Int64 → gH → Prop) : Option Value → gH → Prop := fun v σ => ∃ r, v = some (.long r) ∧ f r σ
def pV (f : gH → Prop) : Option Value → gH → Prop := fun v σ => v = none ∧ f σ
def pQ (f : Option Nat → gH → Prop) : Option Value → gH → Prop := fun v σ => ∃ r, v = some (va_rf r) ∧ f r σ
section GTyped
variable {l : Launch} {M : gM} {d bc bs : Nat} {post : Option Value → gH → Prop} {σ : gH} {pc : Nat} {ls : List (Option Value)} {rest : List Value}
theorem g_callVi {My : gM} {idx n d' mc ms b ci : Nat} {fs : List Value} {f : Int32 → gH → Prop} {st : List Value} (As : List Value) (hd : decode M.2.1 pc = .ok (.invokevirtual idx, 3)) (hk : gLk M.1.cls idx My.1) (hm : gMv My n) (hn : As.length = n) (hb : σ b = some (gO ci fs)) (hc : (gcl[ci]?).map (fun q => q.1) = some My.1.cls) (ct : Ct l My d' mc ms (.ref b :: As) σ (pI f)) (hdd : d' + 1 ≤ d) (hmc : mc ≤ bc) (hms : ms ≤ bs) (hst : st = As.reverse ++ .ref b :: rest) (hcat : (rest.map fun v => v.category).sum ≤ 8)
    (kk : ∀ r σ', f r σ' → G l M d (bc - mc) (bs - ms) post σ' (pc + 3) ls (.int r :: rest)) : G l M d bc bs post σ pc ls st := by
  refine g_callV As hd hk hm hn hb hc ct hdd hmc hms hst hcat (fun v σ' hp => ?_)
  obtain ⟨r, rfl, h⟩ := hp
  exact kk r σ' h
theorem g_callVl {My : gM} {idx n d' mc ms b ci : Nat} {fs : List Value} {f : Int64 → gH → Prop} {st : List Value} (As : List Value) (hd : decode M.2.1 pc = .ok (.invokevirtual idx, 3)) (hk : gLk M.1.cls idx My.1) (hm : gMv My n) (hn : As.length = n) (hb : σ b = some (gO ci fs)) (hc : (gcl[ci]?).map (fun q => q.1) = some My.1.cls) (ct : Ct l My d' mc ms (.ref b :: As) σ (pL f)) (hdd : d' + 1 ≤ d) (hmc : mc ≤ bc) (hms : ms ≤ bs) (hst : st = As.reverse ++ .ref b :: rest) (hcat : (rest.map fun v => v.category).sum ≤ 8)
    (kk : ∀ r σ', f r σ' → G l M d (bc - mc) (bs - ms) post σ' (pc + 3) ls (.long r :: rest)) : G l M d bc bs post σ pc ls st := by
  refine g_callV As hd hk hm hn hb hc ct hdd hmc hms hst hcat (fun v σ' hp => ?_)
  obtain ⟨r, rfl, h⟩ := hp
  exact kk r σ' h
theorem g_callVv {My : gM} {idx n d' mc ms b ci : Nat} {fs : List Value} {f : gH → Prop} {st : List Value} (As : List Value) (hd : decode M.2.1 pc = .ok (.invokevirtual idx, 3)) (hk : gLk M.1.cls idx My.1) (hm : gMv My n) (hn : As.length = n) (hb : σ b = some (gO ci fs)) (hc : (gcl[ci]?).map (fun q => q.1) = some My.1.cls) (ct : Ct l My d' mc ms (.ref b :: As) σ (pV f)) (hdd : d' + 1 ≤ d) (hmc : mc ≤ bc) (hms : ms ≤ bs) (hst : st = As.reverse ++ .ref b :: rest) (hcat : (rest.map fun v => v.category).sum ≤ 8)
    (kk : ∀ σ', f σ' → G l M d (bc - mc) (bs - ms) post σ' (pc + 3) ls rest) : G l M d bc bs post σ pc ls st := by
  refine g_callV As hd hk hm hn hb hc ct hdd hmc hms hst hcat (fun v σ' hp => ?_)
  obtain ⟨rfl, h⟩ := hp
  exact kk σ' h
theorem g_callVq {My : gM} {idx n d' mc ms b ci : Nat} {fs : List Value} {f : Option Nat → gH → Prop} {st : List Value} (As : List Value) (hd : decode M.2.1 pc = .ok (.invokevirtual idx, 3)) (hk : gLk M.1.cls idx My.1) (hm : gMv My n) (hn : As.length = n) (hb : σ b = some (gO ci fs)) (hc : (gcl[ci]?).map (fun q => q.1) = some My.1.cls) (ct : Ct l My d' mc ms (.ref b :: As) σ (pQ f)) (hdd : d' + 1 ≤ d) (hmc : mc ≤ bc) (hms : ms ≤ bs) (hst : st = As.reverse ++ .ref b :: rest) (hcat : (rest.map fun v => v.category).sum ≤ 8)
    (kk : ∀ r σ', f r σ' → G l M d (bc - mc) (bs - ms) post σ' (pc + 3) ls (va_rf r :: rest)) : G l M d bc bs post σ pc ls st := by
  refine g_callV As hd hk hm hn hb hc ct hdd hmc hms hst hcat (fun v σ' hp => ?_)
  obtain ⟨r, rfl, h⟩ := hp
  exact kk r σ' h
theorem g_callSi {My : gM} {idx n d' mc ms : Nat} {f : Int32 → gH → Prop} {st : List Value} (As : List Value) (hd : decode M.2.1 pc = .ok (.invokestatic idx, 3)) (hk : gLk M.1.cls idx My.1) (hm : gMs My n) (hn : As.length = n) (ct : Ct l My d' mc ms As σ (pI f)) (hdd : d' + 1 ≤ d) (hmc : mc ≤ bc) (hms : ms ≤ bs) (hst : st = As.reverse ++ rest) (hcat : (rest.map fun v => v.category).sum ≤ 8)
    (kk : ∀ r σ', f r σ' → G l M d (bc - mc) (bs - ms) post σ' (pc + 3) ls (.int r :: rest)) : G l M d bc bs post σ pc ls st := by
  refine g_callS As hd hk hm hn ct hdd hmc hms hst hcat (fun v σ' hp => ?_)
  obtain ⟨r, rfl, h⟩ := hp
  exact kk r σ' h
theorem g_callSl {My : gM} {idx n d' mc ms : Nat} {f : Int64 → gH → Prop} {st : List Value} (As : List Value) (hd : decode M.2.1 pc = .ok (.invokestatic idx, 3)) (hk : gLk M.1.cls idx My.1) (hm : gMs My n) (hn : As.length = n) (ct : Ct l My d' mc ms As σ (pL f)) (hdd : d' + 1 ≤ d) (hmc : mc ≤ bc) (hms : ms ≤ bs) (hst : st = As.reverse ++ rest) (hcat : (rest.map fun v => v.category).sum ≤ 8)
    (kk : ∀ r σ', f r σ' → G l M d (bc - mc) (bs - ms) post σ' (pc + 3) ls (.long r :: rest)) : G l M d bc bs post σ pc ls st := by
  refine g_callS As hd hk hm hn ct hdd hmc hms hst hcat (fun v σ' hp => ?_)
  obtain ⟨r, rfl, h⟩ := hp
  exact kk r σ' h
theorem g_callSv {My : gM} {idx n d' mc ms : Nat} {f : gH → Prop} {st : List Value} (As : List Value) (hd : decode M.2.1 pc = .ok (.invokestatic idx, 3)) (hk : gLk M.1.cls idx My.1) (hm : gMs My n) (hn : As.length = n) (ct : Ct l My d' mc ms As σ (pV f)) (hdd : d' + 1 ≤ d) (hmc : mc ≤ bc) (hms : ms ≤ bs) (hst : st = As.reverse ++ rest) (hcat : (rest.map fun v => v.category).sum ≤ 8)
    (kk : ∀ σ', f σ' → G l M d (bc - mc) (bs - ms) post σ' (pc + 3) ls rest) : G l M d bc bs post σ pc ls st := by
  refine g_callS As hd hk hm hn ct hdd hmc hms hst hcat (fun v σ' hp => ?_)
  obtain ⟨rfl, h⟩ := hp
  exact kk σ' h
theorem g_callSq {My : gM} {idx n d' mc ms : Nat} {f : Option Nat → gH → Prop} {st : List Value} (As : List Value) (hd : decode M.2.1 pc = .ok (.invokestatic idx, 3)) (hk : gLk M.1.cls idx My.1) (hm : gMs My n) (hn : As.length = n) (ct : Ct l My d' mc ms As σ (pQ f)) (hdd : d' + 1 ≤ d) (hmc : mc ≤ bc) (hms : ms ≤ bs) (hst : st = As.reverse ++ rest) (hcat : (rest.map fun v => v.category).sum ≤ 8)
    (kk : ∀ r σ', f r σ' → G l M d (bc - mc) (bs - ms) post σ' (pc + 3) ls (va_rf r :: rest)) : G l M d bc bs post σ pc ls st := by
  refine g_callS As hd hk hm hn ct hdd hmc hms hst hcat (fun v σ' hp => ?_)
  obtain ⟨r, rfl, h⟩ := hp
  exact kk r σ' h
theorem g_callIv {My : gM} {idx n d' mc ms b : Nat} {f : gH → Prop} {st : List Value} (As : List Value) (hd : decode M.2.1 pc = .ok (.invokespecial idx, 3)) (hk : gLk M.1.cls idx My.1) (hm : gMi My n) (hn : As.length = n) (ct : Ct l My d' mc ms (.ref b :: As) σ (pV f)) (hdd : d' + 1 ≤ d) (hmc : mc ≤ bc) (hms : ms ≤ bs) (hst : st = As.reverse ++ .ref b :: rest) (hcat : (rest.map fun v => v.category).sum ≤ 8)
    (kk : ∀ σ', f σ' → G l M d (bc - mc) (bs - ms) post σ' (pc + 3) ls rest) : G l M d bc bs post σ pc ls st := by
  refine g_callI As hd hk hm hn ct hdd hmc hms hst hcat (fun v σ' hp => ?_)
  obtain ⟨rfl, h⟩ := hp
  exact kk σ' h
end GTyped
