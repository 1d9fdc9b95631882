/-! the judgement G: one walk of a method over an abstract heap (an address, what its cell holds); its rules come from the kit's rows -/
abbrev gC : Type := (FieldType × vp_A) ⊕ (Nat × List Value)
abbrev gH : Type := Nat → Option gC
def gE (aC : FieldType → ClassId) (c : gC) : va_E := match c with
  | .inl x => .inl (aC x.1, x.2)
  | .inr x => .inr x
def su (σ : gH) (a : Nat) (c : gC) : gH := fun b => if b = a then some c else σ b
theorem su_self (σ : gH) (a : Nat) (c : gC) : su σ a c a = some c := by simp [su]
theorem su_ne (σ : gH) {a b : Nat} (c : gC) (h : b ≠ a) : su σ a c b = σ b := by simp [su, h]
theorem su_su (σ : gH) (a : Nat) (c c' : gC) : su (su σ a c) a c' = su σ a c' := by
  funext b
  by_cases h : b = a <;> simp [su, h]
theorem su_comm (σ : gH) {a b : Nat} (c c' : gC) (h : a ≠ b) : su (su σ a c) b c' = su (su σ b c') a c := by
  funext q
  by_cases h1 : q = a
  · subst h1
    simp [su, h]
  · by_cases h2 : q = b
    · subst h2
      simp [su, h1]
    · simp [su, h1, h2]
theorem su_id {σ : gH} {a : Nat} {c : gC} (h : σ a = some c) : su σ a c = σ := by
  funext b
  by_cases e : b = a
  · subst e; simp [su, h]
  · simp [su, e]
abbrev gM : Type := MethodName × ByteArray × Nat × Option FieldType
abbrev gAi (n : Nat) (f : Nat → Int32) : gC := .inl (.int, n, .inl f)
abbrev gAl (n : Nat) (f : Nat → Int64) : gC := .inl (.long, n, .inr (.inl f))
abbrev gAz (n : Nat) (f : Nat → Int32) : gC := .inl (.boolean, n, .inl f)
abbrev gAq (ty : FieldType) (n : Nat) (f : Nat → Option Nat) : gC := .inl (ty, n, .inr (.inr (.inr (.inr f))))
abbrev gO (ci : Nat) (fs : List Value) : gC := .inr (ci, fs)
def gcl : List vw_C := [(RX0, TX0, 5), (RX1, TX1, 4), (RX3, TX3, 5), (RX4, TX4, 2), (RX5, TX5, 4), (RX7, TX7, 4), (RX8, TX8, 14), (RX9, TX9, 6), (RX10, TX10, 10), (RX11, TX11, 40)]
def gTy : List FieldType := [.int, .long, .boolean, .object RX3, .object RX5, .object RX0, .array .long]
def gT (aC : FieldType → ClassId) : List (ClassId × FieldType) := gTy.map (fun ty => (aC ty, ty))
def gHold (D : va_G) (aC : FieldType → ClassId) (σ : gH) (A : Nat → Prop) (H : Heap) : Prop := ∀ (a : Nat) (c : gC), σ a = some c → va_at D gcl (a, gE aC c) H ∧ A a
def gA (σ : gH) (sz : Nat) : Nat → Prop := fun q => σ q ≠ none ∨ sz ≤ q
def gFP : Nat → Value := fun j => .int (([1, 1, 4, 4, 3, 1, 1, 1, 1, 1, 1, 1, 1] : List Int32).getD j 0)
def gTF : Nat → Value := fun j => .int (([1, 1, 2, 3, 4, 5, 2, 2, 3, 2] : List Int32).getD j 0)
def gSt (A : Nat → Prop) (U : State) (H : Heap) : Prop := ∃ t1 t2 : Nat, (va_Z RX10 "FIRST_PRICES" "[I" (.ref t1) A U H ∧ va_T .int t1 13 gFP A U H) ∧ (va_Z RX10 "TAKEN_FOR" "[I" (.ref t2) A U H ∧ va_T .int t2 10 gTF A U H)
theorem gSt.go {A B : Nat → Prop} {U V : State} {H H1 : Heap} (h : gSt A U H) (hvm : U.vm.Alike V.vm) (hq : ∀ a : Nat, a < H.size → ¬ A a → H1[a]? = H[a]?) (hAB : ∀ q, B q → A q) : gSt B V H1 := by
  obtain ⟨t1, t2, ⟨z1, y1⟩, z2, y2⟩ := h
  exact ⟨t1, t2, ⟨((z1.kept hq).narrow hAB).moved hvm, ((y1.kept hq).narrow hAB).moved hvm⟩, ((z2.kept hq).narrow hAB).moved hvm, ((y2.kept hq).narrow hAB).moved hvm⟩
def gLv : Nat → List (Option Value) → List (Nat × Value)
  | _, [] => []
  | k, none :: t => gLv (k + 1) t
  | k, some v :: t => (k, v) :: gLv (k + 1) t
theorem gLv_mem : ∀ (ls : List (Option Value)) (b k : Nat) (v : Value), (k, v) ∈ gLv b ls ↔ b ≤ k ∧ ls[k - b]? = some (some v)
  | [], b, k, v => by simp [gLv]
  | none :: t, b, k, v => by
    rw [gLv, gLv_mem t (b + 1) k v]
    constructor
    · rintro ⟨h1, h2⟩
      refine ⟨by omega, ?_⟩
      rw [show k - b = (k - (b + 1)) + 1 by omega]
      simpa using h2
    · rintro ⟨h1, h2⟩
      by_cases e : k = b
      · subst e; simp at h2
      · refine ⟨by omega, ?_⟩
        rw [show k - b = (k - (b + 1)) + 1 by omega] at h2
        simpa using h2
  | some w :: t, b, k, v => by
    rw [gLv, List.mem_cons, gLv_mem t (b + 1) k v]
    constructor
    · rintro (h | ⟨h1, h2⟩)
      · cases h
        simp
      · refine ⟨by omega, ?_⟩
        rw [show k - b = (k - (b + 1)) + 1 by omega]
        simpa using h2
    · rintro ⟨h1, h2⟩
      by_cases e : k = b
      · subst e
        simp at h2
        left
        rw [h2]
      · right
        refine ⟨by omega, ?_⟩
        rw [show k - b = (k - (b + 1)) + 1 by omega] at h2
        simpa using h2
theorem gLv_at {lsA : Array Slot} {nL : Nat} {ls : List (Option Value)} (h : lv_has lsA nL (gLv 0 ls)) {k : Nat} {v : Value} (hk : ls[k]? = some (some v)) : lsA[k]? = some (.val v) :=
  h.2.2 (k, v) ((gLv_mem ls 0 k v).mpr ⟨Nat.zero_le _, by simpa using hk⟩)
/-- nothing of two words just below place i -/
def gN2 (ls : List (Option Value)) (i : Nat) : Bool := match i with
  | 0 => true
  | j + 1 => match ls[j]? with
    | some (some v) => !(v.category == 2)
    | _ => true
theorem gN2_of {ls : List (Option Value)} {i k : Nat} {v : Value} (h : gN2 ls i = true) (hk : ls[k]? = some (some v)) (e : k + 1 = i) : ¬ v.category = 2 := by
  subst e
  simp [gN2, hk] at h
  exact h
theorem gLv_set1 {lsA : Array Slot} {nL i : Nat} {ls : List (Option Value)} {v : Value} (hn : gN2 ls i = true) (h : lv_has lsA nL ((i, v) :: (gLv 0 ls).filter (fun q => !(q.1 == i) && !(q.1 + 1 == i && q.2.category == 2)))) : lv_has lsA nL (gLv 0 (ls.set i (some v))) := by
  refine ⟨h.1, h.2.1, ?_⟩
  rintro ⟨k, w⟩ hq
  have h1 := ((gLv_mem _ 0 k w).mp hq).2
  simp only [Nat.sub_zero] at h1
  by_cases e : k = i
  · subst e
    rw [List.getElem?_set] at h1
    simp at h1
    refine h.2.2 (k, w) ?_
    rw [← h1.2]
    exact List.mem_cons_self
  · rw [List.getElem?_set_ne (Ne.symm e)] at h1
    refine h.2.2 (k, w) (List.mem_cons_of_mem _ (List.mem_filter.mpr ⟨(gLv_mem ls 0 k w).mpr ⟨Nat.zero_le _, by simpa using h1⟩, ?_⟩))
    simp only [Bool.and_eq_true, Bool.not_eq_true', beq_eq_false_iff_ne, ne_eq, Bool.and_eq_false_iff]
    refine ⟨e, ?_⟩
    by_cases e2 : k + 1 = i
    · exact Or.inr (gN2_of hn h1 e2)
    · exact Or.inl e2
theorem gLv_set2 {lsA : Array Slot} {nL i : Nat} {ls : List (Option Value)} {v : Value} (hn : gN2 ls i = true) (h : lv_has lsA nL ((i, v) :: (gLv 0 ls).filter (fun q => !(q.1 == i) && (!(q.1 == i + 1) && !(q.1 + 1 == i && q.2.category == 2))))) : lv_has lsA nL (gLv 0 ((ls.set i (some v)).set (i + 1) none)) := by
  refine ⟨h.1, h.2.1, ?_⟩
  rintro ⟨k, w⟩ hq
  have h1 := ((gLv_mem _ 0 k w).mp hq).2
  simp only [Nat.sub_zero] at h1
  by_cases e' : k = i + 1
  · subst e'
    rw [List.getElem?_set] at h1
    simp at h1
  · rw [List.getElem?_set_ne (Ne.symm e')] at h1
    by_cases e : k = i
    · subst e
      rw [List.getElem?_set] at h1
      simp at h1
      refine h.2.2 (k, w) ?_
      rw [← h1.2]
      exact List.mem_cons_self
    · rw [List.getElem?_set_ne (Ne.symm e)] at h1
      refine h.2.2 (k, w) (List.mem_cons_of_mem _ (List.mem_filter.mpr ⟨(gLv_mem ls 0 k w).mpr ⟨Nat.zero_le _, by simpa using h1⟩, ?_⟩))
      simp only [Bool.and_eq_true, Bool.not_eq_true', beq_eq_false_iff_ne, ne_eq, Bool.and_eq_false_iff]
      refine ⟨e, e', ?_⟩
      by_cases e2 : k + 1 = i
      · exact Or.inr (gN2_of hn h1 e2)
      · exact Or.inl e2
/-- the tables' words that stay true while the machine runs, and the few that are carried by themselves -/
def lw_g : List Cond := lw_tbl.filter goodWord
theorem gin {w : Cond} (i : Nat) (h : lw_tbl[i]? = some w) (hg : goodWord w = true) : w ∈ lw_g := List.mem_filter.mpr ⟨List.mem_of_getElem? h, hg⟩
def gOvA (U : State) : Prop := (Cond.arrayOver (.array .long)).before #[] U = true
theorem gOvA.moved {u U : State} (hvm : u.vm.Alike U.vm) (h : gOvA u) : gOvA U := by
  obtain ⟨comp, c, k, h1, h2, h3, h4, h5⟩ := arrayOverA_spec h
  obtain ⟨k', hk', he⟩ := hvm.2.2 _ _ h3
  have hi : (U.vm.classes.findIdx? fun (x : Class) => match x.kind with | .array component _ => component == comp | _ => false) = some c := by
    have e1 := va_idx_bare U.vm comp
    have e2 := va_idx_bare u.vm comp
    have e3 : U.vm.bare = u.vm.bare := by first | exact hvm.bare_eq | exact hvm.bare_eq.symm
    rw [e3] at e1
    exact e1.symm.trans (e2.trans h2)
  have hkind : k'.kind = .array comp (.array .long) := by rw [he]; exact h4
  have f1 : U.vm.findClass (FieldType.array .long).toString = some comp := by rw [hvm.findClass]; exact h1
  have f2 : U.vm.findClass ("[" ++ (FieldType.array .long).toString) = some c := by rw [hvm.findClass]; exact h5
  unfold gOvA Cond.before Cond.holds
  simp only [Cond.value]
  rw [f1, Option.bind_some]
  refine (congrArg (fun o : Option Nat => (o.bind (fun c => (U.vm.classes[c]?).map fun (k : Class) => match k.kind with | .array _ ty => decide (ty = FieldType.array .long) && decide (U.vm.findClass ("[" ++ (FieldType.array .long).toString) = some c) | _ => false) == some true)) hi).trans ?_
  simp [hk', hkind, f2]
def gNg (U : State) : Prop := (va_Nw (.methodLinkNest RX10 38 yX4_init RX10) U ∧ va_Nw (.methodLinkNest RX10 45 yX8_init RX10) U ∧ va_Nw (.methodLinkNest RX10 260 yX3_init RX10) U ∧ va_Nw (.methodLinkNest RX10 200 yX8_extend RX10) U ∧ va_Nw (.fieldLinkNest RX10 204 RX8 "bestLength" "I" RX10) U) ∧ (va_AO RX3 U ∧ va_AO RX5 U ∧ va_AO RX0 U ∧ gOvA U)
theorem gNg.warm {s U : State} (hW : s.WarmedH U.vm) (h : gNg s) : gNg U := ⟨⟨va_Nw.warmM hW h.1.1, va_Nw.warmM hW h.1.2.1, va_Nw.warmM hW h.1.2.2.1, va_Nw.warmM hW h.1.2.2.2.1, va_Nw.warmF hW h.1.2.2.2.2⟩, va_AO.moved hW.alike h.2.1, va_AO.moved hW.alike h.2.2.1, va_AO.moved hW.alike h.2.2.2.1, gOvA.moved hW.alike h.2.2.2.2⟩
theorem gNg.same {s U : State} (hW : s.vm = U.vm) (h : gNg s) : gNg U := ⟨⟨va_Nw.same rfl hW h.1.1, va_Nw.same rfl hW h.1.2.1, va_Nw.same rfl hW h.1.2.2.1, va_Nw.same rfl hW h.1.2.2.2.1, va_Nw.same rfl hW h.1.2.2.2.2⟩, va_AO.moved (hW ▸ Vm.Alike.refl s.vm) h.2.1, va_AO.moved (hW ▸ Vm.Alike.refl s.vm) h.2.2.1, va_AO.moved (hW ▸ Vm.Alike.refl s.vm) h.2.2.2.1, gOvA.moved (hW ▸ Vm.Alike.refl s.vm) h.2.2.2.2⟩
/-- the nest mates' links, as they are asked for -/
def gNk (w : Cond) : Prop := w.onTables = true ∧ ∀ U : State, gNg U → va_Nw w U
def gX (p : Program) (R : Room) (s : State) (m : MethodId) (args : Array Value) (meth : Method) (c : Code) (M : gM) (d : Nat) (D : va_G) (aC : FieldType → ClassId) (A : Nat → Prop) : Prop :=
  p.tables.exec = Jvm.exec ∧ c.code = M.2.1 ∧ c.maxLocals = M.2.2.1 ∧ s.vm.findClass M.1.cls = some m.cls ∧ (∀ w ∈ lw_g, w.before args s = true) ∧ meth.sig.returnType = M.2.2.2 ∧ meth.locks = false ∧ meth.name = M.1.name ∧ va_K D gcl (gT aC) s ∧ (∀ q, s.heap.size ≤ q → A q) ∧ gSt A s s.heap ∧ d ≤ R.frames ∧ 64 * d ≤ R.locals ∧ gNg s
def gQ (D : va_G) (aC : FieldType → ClassId) (A : Nat → Prop) (post : Option Value → gH → Prop) : Array Value → State → Outcome → State → Prop := fun _ st oc t => (∃ (v : Option Value) (σ : gH), oc = .returned v ∧ post v σ ∧ gHold D aC σ A t.heap) ∧ va_F A st t
def G (l : Launch) (M : gM) (d bc bs : Nat) (post : Option Value → gH → Prop) (σ : gH) (pc : Nat) (ls : List (Option Value)) (st : List Value) : Prop :=
  ∀ (p : Program) (e : Env) (R : Room) (s : State) (m : MethodId) (args : Array Value) (below : List Frame) (meth : Method) (c : Code) (D : va_G) (aC : FieldType → ClassId) (A : Nat → Prop) (k0 n0 : Nat), gX p R s m args meth c M d D aC A →
    ∀ (H : Heap) (locs : List Loc) (cells slots : Nat) (lsA : Array Slot), gHold D aC σ A H → va_S A s.heap H locs → cells + bc ≤ k0 → slots + bs ≤ n0 → k0 ≤ R.cells → n0 ≤ R.slots → lv_has lsA M.2.2.1 (gLv 0 ls) →
      W p l e R s m args below meth c H locs cells slots (MQ below (gQ D aC A post) args s k0 n0 A) (F0 m pc lsA st)
section GR
variable {l : Launch} {M : gM} {d bc bs : Nat} {post : Option Value → gH → Prop} {σ : gH} {pc : Nat} {ls : List (Option Value)} {rest : List Value}
theorem g_iadd {x y : Int32} (hd : decode M.2.1 pc = .ok (.iadd, 1)) (k : G l M d bc bs post σ (pc + 1) ls (.int (x + y) :: rest)) : G l M d bc bs post σ pc ls (.int y :: .int x :: rest) := by
  intro p e R s m args below meth c D aC A k0 n0 X H locs cells slots lsA hH hS h1 h2 h3 h4 hl
  exact lv_iadd X.1 X.2.1 hd (k p e R s m args below meth c D aC A k0 n0 X H locs cells slots lsA hH hS h1 h2 h3 h4 hl)
theorem g_isub {x y : Int32} (hd : decode M.2.1 pc = .ok (.isub, 1)) (k : G l M d bc bs post σ (pc + 1) ls (.int (x - y) :: rest)) : G l M d bc bs post σ pc ls (.int y :: .int x :: rest) := by
  intro p e R s m args below meth c D aC A k0 n0 X H locs cells slots lsA hH hS h1 h2 h3 h4 hl
  exact lv_isub X.1 X.2.1 hd (k p e R s m args below meth c D aC A k0 n0 X H locs cells slots lsA hH hS h1 h2 h3 h4 hl)
theorem g_imul {x y : Int32} (hd : decode M.2.1 pc = .ok (.imul, 1)) (k : G l M d bc bs post σ (pc + 1) ls (.int (x * y) :: rest)) : G l M d bc bs post σ pc ls (.int y :: .int x :: rest) := by
  intro p e R s m args below meth c D aC A k0 n0 X H locs cells slots lsA hH hS h1 h2 h3 h4 hl
  exact lv_imul X.1 X.2.1 hd (k p e R s m args below meth c D aC A k0 n0 X H locs cells slots lsA hH hS h1 h2 h3 h4 hl)
theorem g_iand {x y : Int32} (hd : decode M.2.1 pc = .ok (.iand, 1)) (k : G l M d bc bs post σ (pc + 1) ls (.int (x &&& y) :: rest)) : G l M d bc bs post σ pc ls (.int y :: .int x :: rest) := by
  intro p e R s m args below meth c D aC A k0 n0 X H locs cells slots lsA hH hS h1 h2 h3 h4 hl
  exact lv_iand X.1 X.2.1 hd (k p e R s m args below meth c D aC A k0 n0 X H locs cells slots lsA hH hS h1 h2 h3 h4 hl)
theorem g_ior {x y : Int32} (hd : decode M.2.1 pc = .ok (.ior, 1)) (k : G l M d bc bs post σ (pc + 1) ls (.int (x ||| y) :: rest)) : G l M d bc bs post σ pc ls (.int y :: .int x :: rest) := by
  intro p e R s m args below meth c D aC A k0 n0 X H locs cells slots lsA hH hS h1 h2 h3 h4 hl
  exact lv_ior X.1 X.2.1 hd (k p e R s m args below meth c D aC A k0 n0 X H locs cells slots lsA hH hS h1 h2 h3 h4 hl)
theorem g_ixor {x y : Int32} (hd : decode M.2.1 pc = .ok (.ixor, 1)) (k : G l M d bc bs post σ (pc + 1) ls (.int (x ^^^ y) :: rest)) : G l M d bc bs post σ pc ls (.int y :: .int x :: rest) := by
  intro p e R s m args below meth c D aC A k0 n0 X H locs cells slots lsA hH hS h1 h2 h3 h4 hl
  exact lv_ixor X.1 X.2.1 hd (k p e R s m args below meth c D aC A k0 n0 X H locs cells slots lsA hH hS h1 h2 h3 h4 hl)
theorem g_ishl {x y : Int32} (hd : decode M.2.1 pc = .ok (.ishl, 1)) (k : G l M d bc bs post σ (pc + 1) ls (.int (x <<< (y &&& 31)) :: rest)) : G l M d bc bs post σ pc ls (.int y :: .int x :: rest) := by
  intro p e R s m args below meth c D aC A k0 n0 X H locs cells slots lsA hH hS h1 h2 h3 h4 hl
  exact lv_ishl X.1 X.2.1 hd (k p e R s m args below meth c D aC A k0 n0 X H locs cells slots lsA hH hS h1 h2 h3 h4 hl)
theorem g_ishr {x y : Int32} (hd : decode M.2.1 pc = .ok (.ishr, 1)) (k : G l M d bc bs post σ (pc + 1) ls (.int (x >>> (y &&& 31)) :: rest)) : G l M d bc bs post σ pc ls (.int y :: .int x :: rest) := by
  intro p e R s m args below meth c D aC A k0 n0 X H locs cells slots lsA hH hS h1 h2 h3 h4 hl
  exact lv_ishr X.1 X.2.1 hd (k p e R s m args below meth c D aC A k0 n0 X H locs cells slots lsA hH hS h1 h2 h3 h4 hl)
theorem g_idiv {x y : Int32} (hd : decode M.2.1 pc = .ok (.idiv, 1)) (hne : ¬ y = 0) (k : G l M d bc bs post σ (pc + 1) ls (.int (x / y) :: rest)) : G l M d bc bs post σ pc ls (.int y :: .int x :: rest) := by
  intro p e R s m args below meth c D aC A k0 n0 X H locs cells slots lsA hH hS h1 h2 h3 h4 hl
  exact lv_idiv X.1 X.2.1 hd hne (k p e R s m args below meth c D aC A k0 n0 X H locs cells slots lsA hH hS h1 h2 h3 h4 hl)
theorem g_irem {x y : Int32} (hd : decode M.2.1 pc = .ok (.irem, 1)) (hne : ¬ y = 0) (k : G l M d bc bs post σ (pc + 1) ls (.int (x - x / y * y) :: rest)) : G l M d bc bs post σ pc ls (.int y :: .int x :: rest) := by
  intro p e R s m args below meth c D aC A k0 n0 X H locs cells slots lsA hH hS h1 h2 h3 h4 hl
  exact lv_irem X.1 X.2.1 hd hne (k p e R s m args below meth c D aC A k0 n0 X H locs cells slots lsA hH hS h1 h2 h3 h4 hl)
theorem g_ladd {x y : Int64} (hd : decode M.2.1 pc = .ok (.ladd, 1)) (k : G l M d bc bs post σ (pc + 1) ls (.long (x + y) :: rest)) : G l M d bc bs post σ pc ls (.long y :: .long x :: rest) := by
  intro p e R s m args below meth c D aC A k0 n0 X H locs cells slots lsA hH hS h1 h2 h3 h4 hl
  exact lv_ladd X.1 X.2.1 hd (k p e R s m args below meth c D aC A k0 n0 X H locs cells slots lsA hH hS h1 h2 h3 h4 hl)
theorem g_lsub {x y : Int64} (hd : decode M.2.1 pc = .ok (.lsub, 1)) (k : G l M d bc bs post σ (pc + 1) ls (.long (x - y) :: rest)) : G l M d bc bs post σ pc ls (.long y :: .long x :: rest) := by
  intro p e R s m args below meth c D aC A k0 n0 X H locs cells slots lsA hH hS h1 h2 h3 h4 hl
  exact lv_lsub X.1 X.2.1 hd (k p e R s m args below meth c D aC A k0 n0 X H locs cells slots lsA hH hS h1 h2 h3 h4 hl)
theorem g_lmul {x y : Int64} (hd : decode M.2.1 pc = .ok (.lmul, 1)) (k : G l M d bc bs post σ (pc + 1) ls (.long (x * y) :: rest)) : G l M d bc bs post σ pc ls (.long y :: .long x :: rest) := by
  intro p e R s m args below meth c D aC A k0 n0 X H locs cells slots lsA hH hS h1 h2 h3 h4 hl
  exact lv_lmul X.1 X.2.1 hd (k p e R s m args below meth c D aC A k0 n0 X H locs cells slots lsA hH hS h1 h2 h3 h4 hl)
theorem g_land {x y : Int64} (hd : decode M.2.1 pc = .ok (.land, 1)) (k : G l M d bc bs post σ (pc + 1) ls (.long (x &&& y) :: rest)) : G l M d bc bs post σ pc ls (.long y :: .long x :: rest) := by
  intro p e R s m args below meth c D aC A k0 n0 X H locs cells slots lsA hH hS h1 h2 h3 h4 hl
  exact lv_land X.1 X.2.1 hd (k p e R s m args below meth c D aC A k0 n0 X H locs cells slots lsA hH hS h1 h2 h3 h4 hl)
theorem g_lor {x y : Int64} (hd : decode M.2.1 pc = .ok (.lor, 1)) (k : G l M d bc bs post σ (pc + 1) ls (.long (x ||| y) :: rest)) : G l M d bc bs post σ pc ls (.long y :: .long x :: rest) := by
  intro p e R s m args below meth c D aC A k0 n0 X H locs cells slots lsA hH hS h1 h2 h3 h4 hl
  exact lv_lor X.1 X.2.1 hd (k p e R s m args below meth c D aC A k0 n0 X H locs cells slots lsA hH hS h1 h2 h3 h4 hl)
theorem g_lxor {x y : Int64} (hd : decode M.2.1 pc = .ok (.lxor, 1)) (k : G l M d bc bs post σ (pc + 1) ls (.long (x ^^^ y) :: rest)) : G l M d bc bs post σ pc ls (.long y :: .long x :: rest) := by
  intro p e R s m args below meth c D aC A k0 n0 X H locs cells slots lsA hH hS h1 h2 h3 h4 hl
  exact lv_lxor X.1 X.2.1 hd (k p e R s m args below meth c D aC A k0 n0 X H locs cells slots lsA hH hS h1 h2 h3 h4 hl)
theorem g_ldiv {x y : Int64} (hd : decode M.2.1 pc = .ok (.ldiv, 1)) (hne : ¬ y = 0) (k : G l M d bc bs post σ (pc + 1) ls (.long (x / y) :: rest)) : G l M d bc bs post σ pc ls (.long y :: .long x :: rest) := by
  intro p e R s m args below meth c D aC A k0 n0 X H locs cells slots lsA hH hS h1 h2 h3 h4 hl
  exact lv_ldiv X.1 X.2.1 hd hne (k p e R s m args below meth c D aC A k0 n0 X H locs cells slots lsA hH hS h1 h2 h3 h4 hl)
theorem g_lrem {x y : Int64} (hd : decode M.2.1 pc = .ok (.lrem, 1)) (hne : ¬ y = 0) (k : G l M d bc bs post σ (pc + 1) ls (.long (x - x / y * y) :: rest)) : G l M d bc bs post σ pc ls (.long y :: .long x :: rest) := by
  intro p e R s m args below meth c D aC A k0 n0 X H locs cells slots lsA hH hS h1 h2 h3 h4 hl
  exact lv_lrem X.1 X.2.1 hd hne (k p e R s m args below meth c D aC A k0 n0 X H locs cells slots lsA hH hS h1 h2 h3 h4 hl)
theorem g_lneg {x : Int64} (hd : decode M.2.1 pc = .ok (.lneg, 1)) (k : G l M d bc bs post σ (pc + 1) ls (.long (-x) :: rest)) : G l M d bc bs post σ pc ls (.long x :: rest) := by
  intro p e R s m args below meth c D aC A k0 n0 X H locs cells slots lsA hH hS h1 h2 h3 h4 hl
  exact lv_lneg X.1 X.2.1 hd (k p e R s m args below meth c D aC A k0 n0 X H locs cells slots lsA hH hS h1 h2 h3 h4 hl)
def gShl (x : Int64) (y : Int32) : Int64 := x <<< (y.toInt64 &&& 63)
def gShr (x : Int64) (y : Int32) : Int64 := x >>> (y.toInt64 &&& 63)
def gUshr (x : Int64) (y : Int32) : Int64 := (x.toUInt64 >>> (y.toInt64.toUInt64 &&& Int64.toUInt64 63)).toInt64
theorem g_lshl {x : Int64} {y : Int32} (hd : decode M.2.1 pc = .ok (.lshl, 1)) (k : G l M d bc bs post σ (pc + 1) ls (.long (gShl x y) :: rest)) : G l M d bc bs post σ pc ls (.int y :: .long x :: rest) := by
  intro p e R s m args below meth c D aC A k0 n0 X H locs cells slots lsA hH hS h1 h2 h3 h4 hl
  exact lv_lshl X.1 X.2.1 hd rfl (k p e R s m args below meth c D aC A k0 n0 X H locs cells slots lsA hH hS h1 h2 h3 h4 hl)
theorem g_lshr {x : Int64} {y : Int32} (hd : decode M.2.1 pc = .ok (.lshr, 1)) (k : G l M d bc bs post σ (pc + 1) ls (.long (gShr x y) :: rest)) : G l M d bc bs post σ pc ls (.int y :: .long x :: rest) := by
  intro p e R s m args below meth c D aC A k0 n0 X H locs cells slots lsA hH hS h1 h2 h3 h4 hl
  exact lv_lshr X.1 X.2.1 hd rfl (k p e R s m args below meth c D aC A k0 n0 X H locs cells slots lsA hH hS h1 h2 h3 h4 hl)
theorem g_lushr {x : Int64} {y : Int32} (hd : decode M.2.1 pc = .ok (.lushr, 1)) (k : G l M d bc bs post σ (pc + 1) ls (.long (gUshr x y) :: rest)) : G l M d bc bs post σ pc ls (.int y :: .long x :: rest) := by
  intro p e R s m args below meth c D aC A k0 n0 X H locs cells slots lsA hH hS h1 h2 h3 h4 hl
  exact lv_lushr X.1 X.2.1 hd rfl (k p e R s m args below meth c D aC A k0 n0 X H locs cells slots lsA hH hS h1 h2 h3 h4 hl)
theorem g_lcmp {x y : Int64} (hd : decode M.2.1 pc = .ok (.lcmp, 1)) (k : G l M d bc bs post σ (pc + 1) ls (.int (lg_cmp x y) :: rest)) : G l M d bc bs post σ pc ls (.long y :: .long x :: rest) := by
  intro p e R s m args below meth c D aC A k0 n0 X H locs cells slots lsA hH hS h1 h2 h3 h4 hl
  exact W.lcmp X.1 X.2.1 hd (k p e R s m args below meth c D aC A k0 n0 X H locs cells slots lsA hH hS h1 h2 h3 h4 hl)
theorem g_i2l {x : Int32} (hd : decode M.2.1 pc = .ok (.i2l, 1)) (k : G l M d bc bs post σ (pc + 1) ls (.long x.toInt64 :: rest)) : G l M d bc bs post σ pc ls (.int x :: rest) := by
  intro p e R s m args below meth c D aC A k0 n0 X H locs cells slots lsA hH hS h1 h2 h3 h4 hl
  exact lv_i2l X.1 X.2.1 hd rfl (k p e R s m args below meth c D aC A k0 n0 X H locs cells slots lsA hH hS h1 h2 h3 h4 hl)
theorem g_l2i {x : Int64} (hd : decode M.2.1 pc = .ok (.l2i, 1)) (k : G l M d bc bs post σ (pc + 1) ls (.int x.toInt32 :: rest)) : G l M d bc bs post σ pc ls (.long x :: rest) := by
  intro p e R s m args below meth c D aC A k0 n0 X H locs cells slots lsA hH hS h1 h2 h3 h4 hl
  exact lv_l2i X.1 X.2.1 hd rfl (k p e R s m args below meth c D aC A k0 n0 X H locs cells slots lsA hH hS h1 h2 h3 h4 hl)
theorem g_i2b {x : Int32} (hd : decode M.2.1 pc = .ok (.i2b, 1)) (k : G l M d bc bs post σ (pc + 1) ls (.int x.toInt8.toInt32 :: rest)) : G l M d bc bs post σ pc ls (.int x :: rest) := by
  intro p e R s m args below meth c D aC A k0 n0 X H locs cells slots lsA hH hS h1 h2 h3 h4 hl
  exact lv_i2b X.1 X.2.1 hd rfl (k p e R s m args below meth c D aC A k0 n0 X H locs cells slots lsA hH hS h1 h2 h3 h4 hl)
theorem g_i2s {x : Int32} (hd : decode M.2.1 pc = .ok (.i2s, 1)) (k : G l M d bc bs post σ (pc + 1) ls (.int x.toInt16.toInt32 :: rest)) : G l M d bc bs post σ pc ls (.int x :: rest) := by
  intro p e R s m args below meth c D aC A k0 n0 X H locs cells slots lsA hH hS h1 h2 h3 h4 hl
  exact lv_i2s X.1 X.2.1 hd rfl (k p e R s m args below meth c D aC A k0 n0 X H locs cells slots lsA hH hS h1 h2 h3 h4 hl)
theorem g_iconst {n : Int} {v : Int32} (hd : decode M.2.1 pc = .ok (.iconst n, 1)) (hv : Int32.ofInt n = v) (k : G l M d bc bs post σ (pc + 1) ls (.int v :: rest)) : G l M d bc bs post σ pc ls (rest) := by
  intro p e R s m args below meth c D aC A k0 n0 X H locs cells slots lsA hH hS h1 h2 h3 h4 hl
  exact lv_iconst X.1 X.2.1 hd hv (k p e R s m args below meth c D aC A k0 n0 X H locs cells slots lsA hH hS h1 h2 h3 h4 hl)
theorem g_bipush {n : Int} {v : Int32} (hd : decode M.2.1 pc = .ok (.bipush n, 2)) (hv : (Int8.ofInt n).toInt32 = v) (k : G l M d bc bs post σ (pc + 2) ls (.int v :: rest)) : G l M d bc bs post σ pc ls (rest) := by
  intro p e R s m args below meth c D aC A k0 n0 X H locs cells slots lsA hH hS h1 h2 h3 h4 hl
  exact lv_bipush X.1 X.2.1 hd hv (k p e R s m args below meth c D aC A k0 n0 X H locs cells slots lsA hH hS h1 h2 h3 h4 hl)
theorem g_sipush {n : Int} {v : Int32} (hd : decode M.2.1 pc = .ok (.sipush n, 3)) (hv : (Int16.ofInt n).toInt32 = v) (k : G l M d bc bs post σ (pc + 3) ls (.int v :: rest)) : G l M d bc bs post σ pc ls (rest) := by
  intro p e R s m args below meth c D aC A k0 n0 X H locs cells slots lsA hH hS h1 h2 h3 h4 hl
  exact lv_sipush X.1 X.2.1 hd hv (k p e R s m args below meth c D aC A k0 n0 X H locs cells slots lsA hH hS h1 h2 h3 h4 hl)
theorem g_lconst {n : Fin 2} {v : Int64} (hd : decode M.2.1 pc = .ok (.lconst n, 1)) (hv : Int64.ofNat (n : Nat) = v) (k : G l M d bc bs post σ (pc + 1) ls (.long v :: rest)) : G l M d bc bs post σ pc ls (rest) := by
  intro p e R s m args below meth c D aC A k0 n0 X H locs cells slots lsA hH hS h1 h2 h3 h4 hl
  exact lv_lconst X.1 X.2.1 hd hv (k p e R s m args below meth c D aC A k0 n0 X H locs cells slots lsA hH hS h1 h2 h3 h4 hl)
theorem g_null (hd : decode M.2.1 pc = .ok (.aconst_null, 1)) (k : G l M d bc bs post σ (pc + 1) ls (.null :: rest)) : G l M d bc bs post σ pc ls (rest) := by
  intro p e R s m args below meth c D aC A k0 n0 X H locs cells slots lsA hH hS h1 h2 h3 h4 hl
  exact lv_null X.1 X.2.1 hd (k p e R s m args below meth c D aC A k0 n0 X H locs cells slots lsA hH hS h1 h2 h3 h4 hl)
theorem g_ldc2 {idx : Nat} {v : Int64} (hd : decode M.2.1 pc = .ok (.ldc2_w idx, 3)) (hc : Cond.constantLong M.1.cls idx v ∈ lw_g) (k : G l M d bc bs post σ (pc + 3) ls (.long v :: rest)) : G l M d bc bs post σ pc ls (rest) := by
  intro p e R s m args below meth c D aC A k0 n0 X H locs cells slots lsA hH hS h1 h2 h3 h4 hl
  exact lv_ldc2 X.1 X.2.1 X.2.2.2.1 (X.2.2.2.2.1 _ hc) hd (k p e R s m args below meth c D aC A k0 n0 X H locs cells slots lsA hH hS h1 h2 h3 h4 hl)
theorem g_dup {va : Value} (hd : decode M.2.1 pc = .ok (.dup, 1)) (h : va.category = 1) (k : G l M d bc bs post σ (pc + 1) ls (va :: va :: rest)) : G l M d bc bs post σ pc ls (va :: rest) := by
  intro p e R s m args below meth c D aC A k0 n0 X H locs cells slots lsA hH hS h1 h2 h3 h4 hl
  exact lv_dup X.1 X.2.1 hd h (k p e R s m args below meth c D aC A k0 n0 X H locs cells slots lsA hH hS h1 h2 h3 h4 hl)
theorem g_pop {va : Value} (hd : decode M.2.1 pc = .ok (.pop, 1)) (h : va.category = 1) (k : G l M d bc bs post σ (pc + 1) ls (rest)) : G l M d bc bs post σ pc ls (va :: rest) := by
  intro p e R s m args below meth c D aC A k0 n0 X H locs cells slots lsA hH hS h1 h2 h3 h4 hl
  exact lv_pop X.1 X.2.1 hd h (k p e R s m args below meth c D aC A k0 n0 X H locs cells slots lsA hH hS h1 h2 h3 h4 hl)
theorem g_dup2 {va vb : Value} (hd : decode M.2.1 pc = .ok (.dup2, 1)) (h : va.category = 1) (h' : vb.category = 1) (k : G l M d bc bs post σ (pc + 1) ls (va :: vb :: va :: vb :: rest)) : G l M d bc bs post σ pc ls (va :: vb :: rest) := by
  intro p e R s m args below meth c D aC A k0 n0 X H locs cells slots lsA hH hS h1 h2 h3 h4 hl
  exact lv_dup2_11 X.1 X.2.1 hd h h' (k p e R s m args below meth c D aC A k0 n0 X H locs cells slots lsA hH hS h1 h2 h3 h4 hl)
theorem g_iload_n {j : Fin 4} {i : Nat} {x : Int32} (hd : decode M.2.1 pc = .ok (.iload_n j, 1)) (hi : (j : Nat) = i) (hv : ls[i]? = some (some (.int x))) (k : G l M d bc bs post σ (pc + 1) ls (.int x :: rest)) : G l M d bc bs post σ pc ls (rest) := by
  intro p e R s m args below meth c D aC A k0 n0 X H locs cells slots lsA hH hS h1 h2 h3 h4 hl
  exact lv_iload_n X.1 X.2.1 hd hi (gLv_at hl hv) (k p e R s m args below meth c D aC A k0 n0 X H locs cells slots lsA hH hS h1 h2 h3 h4 hl)
theorem g_iload {i : Nat} {x : Int32} (hd : decode M.2.1 pc = .ok (.iload i, 2)) (hv : ls[i]? = some (some (.int x))) (k : G l M d bc bs post σ (pc + 2) ls (.int x :: rest)) : G l M d bc bs post σ pc ls (rest) := by
  intro p e R s m args below meth c D aC A k0 n0 X H locs cells slots lsA hH hS h1 h2 h3 h4 hl
  exact lv_iload X.1 X.2.1 hd (gLv_at hl hv) (k p e R s m args below meth c D aC A k0 n0 X H locs cells slots lsA hH hS h1 h2 h3 h4 hl)
theorem g_lload_n {j : Fin 4} {i : Nat} {x : Int64} (hd : decode M.2.1 pc = .ok (.lload_n j, 1)) (hi : (j : Nat) = i) (hv : ls[i]? = some (some (.long x))) (k : G l M d bc bs post σ (pc + 1) ls (.long x :: rest)) : G l M d bc bs post σ pc ls (rest) := by
  intro p e R s m args below meth c D aC A k0 n0 X H locs cells slots lsA hH hS h1 h2 h3 h4 hl
  exact lv_lload_n X.1 X.2.1 hd hi (gLv_at hl hv) (k p e R s m args below meth c D aC A k0 n0 X H locs cells slots lsA hH hS h1 h2 h3 h4 hl)
theorem g_lload {i : Nat} {x : Int64} (hd : decode M.2.1 pc = .ok (.lload i, 2)) (hv : ls[i]? = some (some (.long x))) (k : G l M d bc bs post σ (pc + 2) ls (.long x :: rest)) : G l M d bc bs post σ pc ls (rest) := by
  intro p e R s m args below meth c D aC A k0 n0 X H locs cells slots lsA hH hS h1 h2 h3 h4 hl
  exact lv_lload X.1 X.2.1 hd (gLv_at hl hv) (k p e R s m args below meth c D aC A k0 n0 X H locs cells slots lsA hH hS h1 h2 h3 h4 hl)
theorem g_aload_n {j : Fin 4} {i : Nat} {x : Nat} (hd : decode M.2.1 pc = .ok (.aload_n j, 1)) (hi : (j : Nat) = i) (hv : ls[i]? = some (some (.ref x))) (k : G l M d bc bs post σ (pc + 1) ls (.ref x :: rest)) : G l M d bc bs post σ pc ls (rest) := by
  intro p e R s m args below meth c D aC A k0 n0 X H locs cells slots lsA hH hS h1 h2 h3 h4 hl
  exact lv_aload_n X.1 X.2.1 hd hi (gLv_at hl hv) (k p e R s m args below meth c D aC A k0 n0 X H locs cells slots lsA hH hS h1 h2 h3 h4 hl)
theorem g_aload {i : Nat} {x : Nat} (hd : decode M.2.1 pc = .ok (.aload i, 2)) (hv : ls[i]? = some (some (.ref x))) (k : G l M d bc bs post σ (pc + 2) ls (.ref x :: rest)) : G l M d bc bs post σ pc ls (rest) := by
  intro p e R s m args below meth c D aC A k0 n0 X H locs cells slots lsA hH hS h1 h2 h3 h4 hl
  exact lv_aload X.1 X.2.1 hd (gLv_at hl hv) (k p e R s m args below meth c D aC A k0 n0 X H locs cells slots lsA hH hS h1 h2 h3 h4 hl)
theorem g_aload_nN {j : Fin 4} {i : Nat} (hd : decode M.2.1 pc = .ok (.aload_n j, 1)) (hi : (j : Nat) = i) (hv : ls[i]? = some (some .null)) (k : G l M d bc bs post σ (pc + 1) ls (.null :: rest)) : G l M d bc bs post σ pc ls (rest) := by
  intro p e R s m args below meth c D aC A k0 n0 X H locs cells slots lsA hH hS h1 h2 h3 h4 hl
  exact lv_aload_nN X.1 X.2.1 hd hi (gLv_at hl hv) (k p e R s m args below meth c D aC A k0 n0 X H locs cells slots lsA hH hS h1 h2 h3 h4 hl)
theorem g_aloadN {i : Nat} (hd : decode M.2.1 pc = .ok (.aload i, 2)) (hv : ls[i]? = some (some .null)) (k : G l M d bc bs post σ (pc + 2) ls (.null :: rest)) : G l M d bc bs post σ pc ls (rest) := by
  intro p e R s m args below meth c D aC A k0 n0 X H locs cells slots lsA hH hS h1 h2 h3 h4 hl
  exact lv_aloadN X.1 X.2.1 hd (gLv_at hl hv) (k p e R s m args below meth c D aC A k0 n0 X H locs cells slots lsA hH hS h1 h2 h3 h4 hl)
theorem g_istore_n {j : Fin 4} {i : Nat} {x : Int32} {ls' : List (Option Value)} (hd : decode M.2.1 pc = .ok (.istore_n j, 1)) (hi : (j : Nat) = i) (hn : i < M.2.2.1) (h2 : gN2 ls i = true) (hs : ls.set i (some (.int x)) = ls') (k : G l M d bc bs post σ (pc + 1) ls' rest) : G l M d bc bs post σ pc ls (.int x :: rest) := by
  intro p e R s m args below meth c D aC A k0 n0 X H locs cells slots lsA hH hS h1 h2' h3 h4 hl
  subst hs
  exact lv_istore_n X.1 X.2.1 hd hi hl hn rfl (fun lsA' hl' => k p e R s m args below meth c D aC A k0 n0 X H locs cells slots lsA' hH hS h1 h2' h3 h4  (gLv_set1 h2 hl'))
theorem g_istore {i : Nat} {x : Int32} {ls' : List (Option Value)} (hd : decode M.2.1 pc = .ok (.istore i, 2)) (hn : i < M.2.2.1) (h2 : gN2 ls i = true) (hs : ls.set i (some (.int x)) = ls') (k : G l M d bc bs post σ (pc + 2) ls' rest) : G l M d bc bs post σ pc ls (.int x :: rest) := by
  intro p e R s m args below meth c D aC A k0 n0 X H locs cells slots lsA hH hS h1 h2' h3 h4 hl
  subst hs
  exact lv_istore X.1 X.2.1 hd hl hn rfl (fun lsA' hl' => k p e R s m args below meth c D aC A k0 n0 X H locs cells slots lsA' hH hS h1 h2' h3 h4  (gLv_set1 h2 hl'))
theorem g_lstore_n {j : Fin 4} {i : Nat} {x : Int64} {ls' : List (Option Value)} (hd : decode M.2.1 pc = .ok (.lstore_n j, 1)) (hi : (j : Nat) = i) (hn : i + 1 < M.2.2.1) (h2 : gN2 ls i = true) (hs : (ls.set i (some (.long x))).set (i + 1) none = ls') (k : G l M d bc bs post σ (pc + 1) ls' rest) : G l M d bc bs post σ pc ls (.long x :: rest) := by
  intro p e R s m args below meth c D aC A k0 n0 X H locs cells slots lsA hH hS h1 h2' h3 h4 hl
  subst hs
  exact lv_lstore_n X.1 X.2.1 hd hi hl hn rfl (fun lsA' hl' => k p e R s m args below meth c D aC A k0 n0 X H locs cells slots lsA' hH hS h1 h2' h3 h4  (gLv_set2 h2 hl'))
theorem g_lstore {i : Nat} {x : Int64} {ls' : List (Option Value)} (hd : decode M.2.1 pc = .ok (.lstore i, 2)) (hn : i + 1 < M.2.2.1) (h2 : gN2 ls i = true) (hs : (ls.set i (some (.long x))).set (i + 1) none = ls') (k : G l M d bc bs post σ (pc + 2) ls' rest) : G l M d bc bs post σ pc ls (.long x :: rest) := by
  intro p e R s m args below meth c D aC A k0 n0 X H locs cells slots lsA hH hS h1 h2' h3 h4 hl
  subst hs
  exact lv_lstore X.1 X.2.1 hd hl hn rfl (fun lsA' hl' => k p e R s m args below meth c D aC A k0 n0 X H locs cells slots lsA' hH hS h1 h2' h3 h4  (gLv_set2 h2 hl'))
theorem g_astore_n {j : Fin 4} {i : Nat} {x : Nat} {ls' : List (Option Value)} (hd : decode M.2.1 pc = .ok (.astore_n j, 1)) (hi : (j : Nat) = i) (hn : i < M.2.2.1) (h2 : gN2 ls i = true) (hs : ls.set i (some (.ref x)) = ls') (k : G l M d bc bs post σ (pc + 1) ls' rest) : G l M d bc bs post σ pc ls (.ref x :: rest) := by
  intro p e R s m args below meth c D aC A k0 n0 X H locs cells slots lsA hH hS h1 h2' h3 h4 hl
  subst hs
  exact lv_astore_n X.1 X.2.1 hd hi hl hn rfl (fun lsA' hl' => k p e R s m args below meth c D aC A k0 n0 X H locs cells slots lsA' hH hS h1 h2' h3 h4  (gLv_set1 h2 hl'))
theorem g_astore {i : Nat} {x : Nat} {ls' : List (Option Value)} (hd : decode M.2.1 pc = .ok (.astore i, 2)) (hn : i < M.2.2.1) (h2 : gN2 ls i = true) (hs : ls.set i (some (.ref x)) = ls') (k : G l M d bc bs post σ (pc + 2) ls' rest) : G l M d bc bs post σ pc ls (.ref x :: rest) := by
  intro p e R s m args below meth c D aC A k0 n0 X H locs cells slots lsA hH hS h1 h2' h3 h4 hl
  subst hs
  exact lv_astore X.1 X.2.1 hd hl hn rfl (fun lsA' hl' => k p e R s m args below meth c D aC A k0 n0 X H locs cells slots lsA' hH hS h1 h2' h3 h4  (gLv_set1 h2 hl'))
theorem g_astore_nN {j : Fin 4} {i : Nat} {ls' : List (Option Value)} (hd : decode M.2.1 pc = .ok (.astore_n j, 1)) (hi : (j : Nat) = i) (hn : i < M.2.2.1) (h2 : gN2 ls i = true) (hs : ls.set i (some .null) = ls') (k : G l M d bc bs post σ (pc + 1) ls' rest) : G l M d bc bs post σ pc ls (.null :: rest) := by
  intro p e R s m args below meth c D aC A k0 n0 X H locs cells slots lsA hH hS h1 h2' h3 h4 hl
  subst hs
  exact lv_astore_nN X.1 X.2.1 hd hi hl hn rfl (fun lsA' hl' => k p e R s m args below meth c D aC A k0 n0 X H locs cells slots lsA' hH hS h1 h2' h3 h4  (gLv_set1 h2 hl'))
theorem g_astoreN {i : Nat} {ls' : List (Option Value)} (hd : decode M.2.1 pc = .ok (.astore i, 2)) (hn : i < M.2.2.1) (h2 : gN2 ls i = true) (hs : ls.set i (some .null) = ls') (k : G l M d bc bs post σ (pc + 2) ls' rest) : G l M d bc bs post σ pc ls (.null :: rest) := by
  intro p e R s m args below meth c D aC A k0 n0 X H locs cells slots lsA hH hS h1 h2' h3 h4 hl
  subst hs
  exact lv_astoreN X.1 X.2.1 hd hl hn rfl (fun lsA' hl' => k p e R s m args below meth c D aC A k0 n0 X H locs cells slots lsA' hH hS h1 h2' h3 h4  (gLv_set1 h2 hl'))
theorem g_iinc {i : Nat} {n : Int} {x v : Int32} {ls' : List (Option Value)} (hd : decode M.2.1 pc = .ok (.iinc i n, 3)) (hv : ls[i]? = some (some (.int x))) (hx : x + Int32.ofInt n = v) (hn : i < M.2.2.1) (h2 : gN2 ls i = true) (hs : ls.set i (some (.int v)) = ls') (k : G l M d bc bs post σ (pc + 3) ls' rest) : G l M d bc bs post σ pc ls rest := by
  intro p e R s m args below meth c D aC A k0 n0 X H locs cells slots lsA hH hS h1 h2' h3 h4 hl
  subst hs
  obtain ⟨q, hq⟩ := List.getElem?_of_mem ((gLv_mem ls 0 i (.int x)).mpr ⟨Nat.zero_le _, by simpa using hv⟩)
  exact lv_iinc X.1 X.2.1 hd hl hq hx hn rfl (fun lsA' hl' => k p e R s m args below meth c D aC A k0 n0 X H locs cells slots lsA' hH hS h1 h2' h3 h4  (gLv_set1 h2 hl'))
theorem g_if_eq {x : Int32} {off : Int} {tgt : Nat} (hd : decode M.2.1 pc = .ok (.ifCond .eq off, 3)) (ht : (pc : Int) + off = (tgt : Int)) (kt : x = 0 → G l M d bc bs post σ tgt ls rest) (kf : ¬ x = 0 → G l M d bc bs post σ (pc + 3) ls rest) : G l M d bc bs post σ pc ls (.int x :: rest) := by
  intro p e R s m args below meth c D aC A k0 n0 X H locs cells slots lsA hH hS h1 h2 h3 h4 hl
  exact lv_if_eq X.1 X.2.1 hd ht (fun q => kt q p e R s m args below meth c D aC A k0 n0 X H locs cells slots lsA hH hS h1 h2 h3 h4 hl) (fun q => kf q p e R s m args below meth c D aC A k0 n0 X H locs cells slots lsA hH hS h1 h2 h3 h4 hl)
theorem g_icmp_eq {x y : Int32} {off : Int} {tgt : Nat} (hd : decode M.2.1 pc = .ok (.if_icmp .eq off, 3)) (ht : (pc : Int) + off = (tgt : Int)) (kt : x = y → G l M d bc bs post σ tgt ls rest) (kf : ¬ x = y → G l M d bc bs post σ (pc + 3) ls rest) : G l M d bc bs post σ pc ls (.int y :: .int x :: rest) := by
  intro p e R s m args below meth c D aC A k0 n0 X H locs cells slots lsA hH hS h1 h2 h3 h4 hl
  exact lv_icmp_eq X.1 X.2.1 hd ht (fun q => kt q p e R s m args below meth c D aC A k0 n0 X H locs cells slots lsA hH hS h1 h2 h3 h4 hl) (fun q => kf q p e R s m args below meth c D aC A k0 n0 X H locs cells slots lsA hH hS h1 h2 h3 h4 hl)
theorem g_if_ne {x : Int32} {off : Int} {tgt : Nat} (hd : decode M.2.1 pc = .ok (.ifCond .ne off, 3)) (ht : (pc : Int) + off = (tgt : Int)) (kt : ¬ x = 0 → G l M d bc bs post σ tgt ls rest) (kf : x = 0 → G l M d bc bs post σ (pc + 3) ls rest) : G l M d bc bs post σ pc ls (.int x :: rest) := by
  intro p e R s m args below meth c D aC A k0 n0 X H locs cells slots lsA hH hS h1 h2 h3 h4 hl
  exact lv_if_ne X.1 X.2.1 hd ht (fun q => kt q p e R s m args below meth c D aC A k0 n0 X H locs cells slots lsA hH hS h1 h2 h3 h4 hl) (fun q => kf q p e R s m args below meth c D aC A k0 n0 X H locs cells slots lsA hH hS h1 h2 h3 h4 hl)
theorem g_icmp_ne {x y : Int32} {off : Int} {tgt : Nat} (hd : decode M.2.1 pc = .ok (.if_icmp .ne off, 3)) (ht : (pc : Int) + off = (tgt : Int)) (kt : ¬ x = y → G l M d bc bs post σ tgt ls rest) (kf : x = y → G l M d bc bs post σ (pc + 3) ls rest) : G l M d bc bs post σ pc ls (.int y :: .int x :: rest) := by
  intro p e R s m args below meth c D aC A k0 n0 X H locs cells slots lsA hH hS h1 h2 h3 h4 hl
  exact lv_icmp_ne X.1 X.2.1 hd ht (fun q => kt q p e R s m args below meth c D aC A k0 n0 X H locs cells slots lsA hH hS h1 h2 h3 h4 hl) (fun q => kf q p e R s m args below meth c D aC A k0 n0 X H locs cells slots lsA hH hS h1 h2 h3 h4 hl)
theorem g_if_lt {x : Int32} {off : Int} {tgt : Nat} (hd : decode M.2.1 pc = .ok (.ifCond .lt off, 3)) (ht : (pc : Int) + off = (tgt : Int)) (kt : x < 0 → G l M d bc bs post σ tgt ls rest) (kf : ¬ x < 0 → G l M d bc bs post σ (pc + 3) ls rest) : G l M d bc bs post σ pc ls (.int x :: rest) := by
  intro p e R s m args below meth c D aC A k0 n0 X H locs cells slots lsA hH hS h1 h2 h3 h4 hl
  exact lv_if_lt X.1 X.2.1 hd ht (fun q => kt q p e R s m args below meth c D aC A k0 n0 X H locs cells slots lsA hH hS h1 h2 h3 h4 hl) (fun q => kf q p e R s m args below meth c D aC A k0 n0 X H locs cells slots lsA hH hS h1 h2 h3 h4 hl)
theorem g_icmp_lt {x y : Int32} {off : Int} {tgt : Nat} (hd : decode M.2.1 pc = .ok (.if_icmp .lt off, 3)) (ht : (pc : Int) + off = (tgt : Int)) (kt : x < y → G l M d bc bs post σ tgt ls rest) (kf : ¬ x < y → G l M d bc bs post σ (pc + 3) ls rest) : G l M d bc bs post σ pc ls (.int y :: .int x :: rest) := by
  intro p e R s m args below meth c D aC A k0 n0 X H locs cells slots lsA hH hS h1 h2 h3 h4 hl
  exact lv_icmp_lt X.1 X.2.1 hd ht (fun q => kt q p e R s m args below meth c D aC A k0 n0 X H locs cells slots lsA hH hS h1 h2 h3 h4 hl) (fun q => kf q p e R s m args below meth c D aC A k0 n0 X H locs cells slots lsA hH hS h1 h2 h3 h4 hl)
theorem g_if_ge {x : Int32} {off : Int} {tgt : Nat} (hd : decode M.2.1 pc = .ok (.ifCond .ge off, 3)) (ht : (pc : Int) + off = (tgt : Int)) (kt : 0 ≤ x → G l M d bc bs post σ tgt ls rest) (kf : ¬ 0 ≤ x → G l M d bc bs post σ (pc + 3) ls rest) : G l M d bc bs post σ pc ls (.int x :: rest) := by
  intro p e R s m args below meth c D aC A k0 n0 X H locs cells slots lsA hH hS h1 h2 h3 h4 hl
  exact lv_if_ge X.1 X.2.1 hd ht (fun q => kt q p e R s m args below meth c D aC A k0 n0 X H locs cells slots lsA hH hS h1 h2 h3 h4 hl) (fun q => kf q p e R s m args below meth c D aC A k0 n0 X H locs cells slots lsA hH hS h1 h2 h3 h4 hl)
theorem g_icmp_ge {x y : Int32} {off : Int} {tgt : Nat} (hd : decode M.2.1 pc = .ok (.if_icmp .ge off, 3)) (ht : (pc : Int) + off = (tgt : Int)) (kt : y ≤ x → G l M d bc bs post σ tgt ls rest) (kf : ¬ y ≤ x → G l M d bc bs post σ (pc + 3) ls rest) : G l M d bc bs post σ pc ls (.int y :: .int x :: rest) := by
  intro p e R s m args below meth c D aC A k0 n0 X H locs cells slots lsA hH hS h1 h2 h3 h4 hl
  exact lv_icmp_ge X.1 X.2.1 hd ht (fun q => kt q p e R s m args below meth c D aC A k0 n0 X H locs cells slots lsA hH hS h1 h2 h3 h4 hl) (fun q => kf q p e R s m args below meth c D aC A k0 n0 X H locs cells slots lsA hH hS h1 h2 h3 h4 hl)
theorem g_if_gt {x : Int32} {off : Int} {tgt : Nat} (hd : decode M.2.1 pc = .ok (.ifCond .gt off, 3)) (ht : (pc : Int) + off = (tgt : Int)) (kt : 0 < x → G l M d bc bs post σ tgt ls rest) (kf : ¬ 0 < x → G l M d bc bs post σ (pc + 3) ls rest) : G l M d bc bs post σ pc ls (.int x :: rest) := by
  intro p e R s m args below meth c D aC A k0 n0 X H locs cells slots lsA hH hS h1 h2 h3 h4 hl
  exact lv_if_gt X.1 X.2.1 hd ht (fun q => kt q p e R s m args below meth c D aC A k0 n0 X H locs cells slots lsA hH hS h1 h2 h3 h4 hl) (fun q => kf q p e R s m args below meth c D aC A k0 n0 X H locs cells slots lsA hH hS h1 h2 h3 h4 hl)
theorem g_icmp_gt {x y : Int32} {off : Int} {tgt : Nat} (hd : decode M.2.1 pc = .ok (.if_icmp .gt off, 3)) (ht : (pc : Int) + off = (tgt : Int)) (kt : y < x → G l M d bc bs post σ tgt ls rest) (kf : ¬ y < x → G l M d bc bs post σ (pc + 3) ls rest) : G l M d bc bs post σ pc ls (.int y :: .int x :: rest) := by
  intro p e R s m args below meth c D aC A k0 n0 X H locs cells slots lsA hH hS h1 h2 h3 h4 hl
  exact lv_icmp_gt X.1 X.2.1 hd ht (fun q => kt q p e R s m args below meth c D aC A k0 n0 X H locs cells slots lsA hH hS h1 h2 h3 h4 hl) (fun q => kf q p e R s m args below meth c D aC A k0 n0 X H locs cells slots lsA hH hS h1 h2 h3 h4 hl)
theorem g_if_le {x : Int32} {off : Int} {tgt : Nat} (hd : decode M.2.1 pc = .ok (.ifCond .le off, 3)) (ht : (pc : Int) + off = (tgt : Int)) (kt : x ≤ 0 → G l M d bc bs post σ tgt ls rest) (kf : ¬ x ≤ 0 → G l M d bc bs post σ (pc + 3) ls rest) : G l M d bc bs post σ pc ls (.int x :: rest) := by
  intro p e R s m args below meth c D aC A k0 n0 X H locs cells slots lsA hH hS h1 h2 h3 h4 hl
  exact lv_if_le X.1 X.2.1 hd ht (fun q => kt q p e R s m args below meth c D aC A k0 n0 X H locs cells slots lsA hH hS h1 h2 h3 h4 hl) (fun q => kf q p e R s m args below meth c D aC A k0 n0 X H locs cells slots lsA hH hS h1 h2 h3 h4 hl)
theorem g_icmp_le {x y : Int32} {off : Int} {tgt : Nat} (hd : decode M.2.1 pc = .ok (.if_icmp .le off, 3)) (ht : (pc : Int) + off = (tgt : Int)) (kt : x ≤ y → G l M d bc bs post σ tgt ls rest) (kf : ¬ x ≤ y → G l M d bc bs post σ (pc + 3) ls rest) : G l M d bc bs post σ pc ls (.int y :: .int x :: rest) := by
  intro p e R s m args below meth c D aC A k0 n0 X H locs cells slots lsA hH hS h1 h2 h3 h4 hl
  exact lv_icmp_le X.1 X.2.1 hd ht (fun q => kt q p e R s m args below meth c D aC A k0 n0 X H locs cells slots lsA hH hS h1 h2 h3 h4 hl) (fun q => kf q p e R s m args below meth c D aC A k0 n0 X H locs cells slots lsA hH hS h1 h2 h3 h4 hl)
theorem g_goto {off : Int} {tgt : Nat} (hd : decode M.2.1 pc = .ok (.goto off, 3)) (ht : (pc : Int) + off = (tgt : Int)) (k : G l M d bc bs post σ tgt ls rest) : G l M d bc bs post σ pc ls rest := by
  intro p e R s m args below meth c D aC A k0 n0 X H locs cells slots lsA hH hS h1 h2 h3 h4 hl
  exact lv_goto X.1 X.2.1 hd ht (k p e R s m args below meth c D aC A k0 n0 X H locs cells slots lsA hH hS h1 h2 h3 h4 hl)
theorem g_ifnull {x : Nat} {off : Int} (hd : decode M.2.1 pc = .ok (.ifnull off, 3)) (k : G l M d bc bs post σ (pc + 3) ls rest) : G l M d bc bs post σ pc ls (.ref x :: rest) := by
  intro p e R s m args below meth c D aC A k0 n0 X H locs cells slots lsA hH hS h1 h2 h3 h4 hl
  exact lv_ifnull X.1 X.2.1 hd (k p e R s m args below meth c D aC A k0 n0 X H locs cells slots lsA hH hS h1 h2 h3 h4 hl)
theorem g_ifnullN {off : Int} {tgt : Nat} (hd : decode M.2.1 pc = .ok (.ifnull off, 3)) (ht : (pc : Int) + off = (tgt : Int)) (k : G l M d bc bs post σ tgt ls rest) : G l M d bc bs post σ pc ls (.null :: rest) := by
  intro p e R s m args below meth c D aC A k0 n0 X H locs cells slots lsA hH hS h1 h2 h3 h4 hl
  exact lv_ifnullN X.1 X.2.1 hd ht (k p e R s m args below meth c D aC A k0 n0 X H locs cells slots lsA hH hS h1 h2 h3 h4 hl)
theorem g_ifnonnull {x : Nat} {off : Int} {tgt : Nat} (hd : decode M.2.1 pc = .ok (.ifnonnull off, 3)) (ht : (pc : Int) + off = (tgt : Int)) (k : G l M d bc bs post σ tgt ls rest) : G l M d bc bs post σ pc ls (.ref x :: rest) := by
  intro p e R s m args below meth c D aC A k0 n0 X H locs cells slots lsA hH hS h1 h2 h3 h4 hl
  exact lv_ifnonnull X.1 X.2.1 hd ht (k p e R s m args below meth c D aC A k0 n0 X H locs cells slots lsA hH hS h1 h2 h3 h4 hl)
theorem g_ifnonnullN {off : Int} (hd : decode M.2.1 pc = .ok (.ifnonnull off, 3)) (k : G l M d bc bs post σ (pc + 3) ls rest) : G l M d bc bs post σ pc ls (.null :: rest) := by
  intro p e R s m args below meth c D aC A k0 n0 X H locs cells slots lsA hH hS h1 h2 h3 h4 hl
  exact lv_ifnonnullN X.1 X.2.1 hd (k p e R s m args below meth c D aC A k0 n0 X H locs cells slots lsA hH hS h1 h2 h3 h4 hl)
theorem g_tableIn {dflt lo hi : Int} {offs : Array Int} {len : Nat} {x : Int32} {off : Int} {tgt : Nat} (hd : decode M.2.1 pc = .ok (.tableswitch dflt lo hi offs, len)) (q1 : ¬ x.toInt < lo) (q2 : ¬ hi < x.toInt) (ho : offs[(x.toInt - lo).toNat]? = some off) (ht : (pc : Int) + off = (tgt : Int)) (k : G l M d bc bs post σ tgt ls rest) : G l M d bc bs post σ pc ls (.int x :: rest) := by
  intro p e R s m args below meth c D aC A k0 n0 X H locs cells slots lsA hH hS h1 h2 h3 h4 hl
  exact lv_tableIn X.1 X.2.1 hd q1 q2 ho ht (k p e R s m args below meth c D aC A k0 n0 X H locs cells slots lsA hH hS h1 h2 h3 h4 hl)
theorem g_tableOut {dflt lo hi : Int} {offs : Array Int} {len : Nat} {x : Int32} {tgt : Nat} (hd : decode M.2.1 pc = .ok (.tableswitch dflt lo hi offs, len)) (q : x.toInt < lo ∨ hi < x.toInt) (ht : (pc : Int) + dflt = (tgt : Int)) (k : G l M d bc bs post σ tgt ls rest) : G l M d bc bs post σ pc ls (.int x :: rest) := by
  intro p e R s m args below meth c D aC A k0 n0 X H locs cells slots lsA hH hS h1 h2 h3 h4 hl
  exact lv_tableOut X.1 X.2.1 hd q ht (k p e R s m args below meth c D aC A k0 n0 X H locs cells slots lsA hH hS h1 h2 h3 h4 hl)
theorem g_cs {st st' : List Value} (e : st = st') (k : G l M d bc bs post σ pc ls st') : G l M d bc bs post σ pc ls st := e ▸ k
theorem g_cl {st : List Value} {ls' : List (Option Value)} (e : ls = ls') (k : G l M d bc bs post σ pc ls' st) : G l M d bc bs post σ pc ls st := e ▸ k
theorem g_ch {st : List Value} {σ' : gH} (e : σ = σ') (k : G l M d bc bs post σ' pc ls st) : G l M d bc bs post σ pc ls st := e ▸ k
theorem g_topi {x : Int32} (k : ∀ y : Int32, y = x → G l M d bc bs post σ pc ls (.int y :: rest)) : G l M d bc bs post σ pc ls (.int x :: rest) := k x rfl
theorem g_topl {x : Int64} (k : ∀ y : Int64, y = x → G l M d bc bs post σ pc ls (.long y :: rest)) : G l M d bc bs post σ pc ls (.long x :: rest) := k x rfl
theorem g_toi {x : Int32} (y : Int32) (e : x = y) (k : G l M d bc bs post σ pc ls (.int y :: rest)) : G l M d bc bs post σ pc ls (.int x :: rest) := e ▸ k
theorem g_tol {x : Int64} (y : Int64) (e : x = y) (k : G l M d bc bs post σ pc ls (.long y :: rest)) : G l M d bc bs post σ pc ls (.long x :: rest) := e ▸ k
theorem g_mono {post' : Option Value → gH → Prop} {st : List Value} (h : ∀ v σ, post' v σ → post v σ) (k : G l M d bc bs post' σ pc ls st) : G l M d bc bs post σ pc ls st := by
  intro p e R s m args below meth c D aC A k0 n0 X H locs cells slots lsA hH hS h1 h2 h3 h4 hl
  intro T hT Xs
  obtain ⟨t, a1, o, b1, b2, ⟨⟨v, σ1, c1, c2, c3⟩, c4⟩, b4⟩ := k p e R s m args below meth c D aC A k0 n0 X H locs cells slots lsA hH hS h1 h2 h3 h4 hl T hT Xs
  exact ⟨t, a1, o, b1, b2, ⟨⟨v, σ1, c1, h v σ1 c2, c3⟩, c4⟩, b4⟩
theorem g_ret0 {p : Program} {e : Env} {R : Room} {s : State} {m : MethodId} {args : Array Value} {below : List Frame} {meth : Method} {c : Code} {D : va_G} {aC : FieldType → ClassId} {A : Nat → Prop} {H : Heap} {locs : List Loc} {v : Option Value} (hH : gHold D aC σ A H) (hS : va_S A s.heap H locs) (hp : post v σ) : ∀ t : State, t.heap = H → s.WarmedH t.vm → gQ D aC A post args s (.returned v) t := fun t ht _ => ⟨⟨v, σ, rfl, hp, by rw [ht]; exact hH⟩, hS.F ht⟩
theorem g_iret {x : Int32} (hd : decode M.2.1 pc = .ok (.ireturn, 1)) (hr : M.2.2.2 = some .int) (hp : post (some (.int x)) σ) : G l M d bc bs post σ pc ls [.int x] := by
  intro p e R s m args below meth c D aC A k0 n0 X H locs cells slots lsA hH hS h1 h2 h3 h4 hl
  refine W.widen (k := k0) (n := n0) (by omega) (by omega) ?_
  exact W.iret X.1 X.2.1 (X.2.2.2.2.2.1.trans hr) (g_ret0 (p := p) (e := e) (R := R) (m := m) (below := below) (meth := meth) (c := c) hH hS hp) hS.2.2 hd X.2.2.2.2.2.2.1
theorem g_lret {x : Int64} (hd : decode M.2.1 pc = .ok (.lreturn, 1)) (hr : M.2.2.2 = some .long) (hp : post (some (.long x)) σ) : G l M d bc bs post σ pc ls [.long x] := by
  intro p e R s m args below meth c D aC A k0 n0 X H locs cells slots lsA hH hS h1 h2 h3 h4 hl
  refine W.widen (k := k0) (n := n0) (by omega) (by omega) ?_
  exact W.lret X.1 X.2.1 (X.2.2.2.2.2.1.trans hr) (g_ret0 (p := p) (e := e) (R := R) (m := m) (below := below) (meth := meth) (c := c) hH hS hp) hS.2.2 hd X.2.2.2.2.2.2.1
theorem g_vret (hd : decode M.2.1 pc = .ok (.return_, 1)) (hr : M.2.2.2 = none) (hp : post (none) σ) : G l M d bc bs post σ pc ls [] := by
  intro p e R s m args below meth c D aC A k0 n0 X H locs cells slots lsA hH hS h1 h2 h3 h4 hl
  refine W.widen (k := k0) (n := n0) (by omega) (by omega) ?_
  exact W.vret X.1 X.2.1 (X.2.2.2.2.2.1.trans hr) (g_ret0 (p := p) (e := e) (R := R) (m := m) (below := below) (meth := meth) (c := c) hH hS hp) hS.2.2 hd X.2.2.2.2.2.2.1
theorem g_zret {x : Int32} (hd : decode M.2.1 pc = .ok (.ireturn, 1)) (hr : M.2.2.2 = some .boolean) (hx : narrow .boolean (.int x) = .int x) (hp : post (some (.int x)) σ) : G l M d bc bs post σ pc ls [.int x] := by
  intro p e R s m args below meth c D aC A k0 n0 X H locs cells slots lsA hH hS h1 h2 h3 h4 hl
  refine W.widen (k := k0) (n := n0) (by omega) (by omega) ?_
  exact W.zret X.1 X.2.1 (X.2.2.2.2.2.1.trans hr) hx (g_ret0 (p := p) (e := e) (R := R) (m := m) (below := below) (meth := meth) (c := c) hH hS hp) hS.2.2 hd X.2.2.2.2.2.2.1
theorem g_aret {r : Option Nat} {C : String} (hd : decode M.2.1 pc = .ok (.areturn, 1)) (hr : M.2.2.2 = some (.object C)) (hp : post (some (va_rf r)) σ) : G l M d bc bs post σ pc ls [va_rf r] := by
  intro p e R s m args below meth c D aC A k0 n0 X H locs cells slots lsA hH hS h1 h2 h3 h4 hl
  refine W.widen (k := k0) (n := n0) (by omega) (by omega) ?_
  exact W.aret X.1 X.2.1 (X.2.2.2.2.2.1.trans hr) (Or.inl ⟨_, rfl⟩) (va_rf_or r) (g_ret0 (p := p) (e := e) (R := R) (m := m) (below := below) (meth := meth) (c := c) hH hS hp) hS.2.2 hd X.2.2.2.2.2.2.1
end GR
