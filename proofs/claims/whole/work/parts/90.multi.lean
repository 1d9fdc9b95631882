/-! a row of rows: multianewarray of long[3][256], by the machine's own make, its loop unrolled -/
def mRow (comp : ClassId) : Cell := { cls := comp, slots := Array.replicate 256 (.long 0), vm := .none }
def mR0 (cA : ClassId) : Cell := { cls := cA, slots := Array.replicate 3 .null, vm := .none }
def mR1 (cA : ClassId) (h : Nat) : Cell := (mR0 cA).setSlot 0 (.ref (h + 1))
def mR2 (cA : ClassId) (h : Nat) : Cell := (mR1 cA h).setSlot 1 (.ref (h + 2))
def mR3 (cA : ClassId) (h : Nat) : Cell := (mR2 cA h).setSlot 2 (.ref (h + 3))
def mT0 (s : State) (cA : ClassId) : State := s.pushCell (mR0 cA)
def mT1 (s : State) (cA comp : ClassId) : State := ((mT0 s cA).pushCell (mRow comp)).setCell s.heap.size (mR1 cA s.heap.size)
def mT2 (s : State) (cA comp : ClassId) : State := ((mT1 s cA comp).pushCell (mRow comp)).setCell s.heap.size (mR2 cA s.heap.size)
def mT3 (s : State) (cA comp : ClassId) : State := ((mT2 s cA comp).pushCell (mRow comp)).setCell s.heap.size (mR3 cA s.heap.size)
theorem mT0_f (s : State) (cA : ClassId) : (mT0 s cA).heap.size = s.heap.size + 1 ∧ (mT0 s cA).heap[s.heap.size]? = some (mR0 cA) ∧ (mT0 s cA).vm = s.vm ∧ (mT0 s cA).slotsUsed = s.slotsUsed + 3 := ⟨by simp [mT0], by simp [mT0], rfl, by simp [mT0, mR0]⟩
theorem mTs_f {s t : State} {h n u : Nat} {o o' : Cell} {comp : ClassId} (h1 : t.heap.size = n) (hn : h < n) (h2 : t.heap[h]? = some o) (h3 : t.vm = s.vm) (h4 : t.slotsUsed = u) : ((t.pushCell (mRow comp)).setCell h o').heap.size = n + 1 ∧ ((t.pushCell (mRow comp)).setCell h o').heap[h]? = some o' ∧ ((t.pushCell (mRow comp)).setCell h o').vm = s.vm ∧ ((t.pushCell (mRow comp)).setCell h o').slotsUsed = u + 256 ∧ (t.pushCell (mRow comp)).heap[h]? = some o := by
  have hlt : h < t.heap.size := by rw [h1]; exact hn
  have hb : (t.pushCell (mRow comp)).heap[h]? = some o := by rw [State.heap_pushCell_of_lt (h := hlt)]; exact h2
  refine ⟨by simp [State.setCell, h1], State.heap_setCell_self hb, by simp [h3], by simp [h4, mRow], hb⟩
theorem mT1_f (s : State) (cA comp : ClassId) : (mT1 s cA comp).heap.size = s.heap.size + 2 ∧ (mT1 s cA comp).heap[s.heap.size]? = some (mR1 cA s.heap.size) ∧ (mT1 s cA comp).vm = s.vm ∧ (mT1 s cA comp).slotsUsed = s.slotsUsed + 3 + 256 ∧ ((mT0 s cA).pushCell (mRow comp)).heap[s.heap.size]? = some (mR0 cA) := by
  obtain ⟨a1, a2, a3, a4⟩ := mT0_f s cA
  exact mTs_f a1 (by omega) a2 a3 a4
theorem mT2_f (s : State) (cA comp : ClassId) : (mT2 s cA comp).heap.size = s.heap.size + 3 ∧ (mT2 s cA comp).heap[s.heap.size]? = some (mR2 cA s.heap.size) ∧ (mT2 s cA comp).vm = s.vm ∧ (mT2 s cA comp).slotsUsed = s.slotsUsed + 3 + 256 + 256 ∧ ((mT1 s cA comp).pushCell (mRow comp)).heap[s.heap.size]? = some (mR1 cA s.heap.size) := by
  obtain ⟨a1, a2, a3, a4, -⟩ := mT1_f s cA comp
  exact mTs_f a1 (by omega) a2 a3 a4
theorem mT3_f (s : State) (cA comp : ClassId) : ((mT2 s cA comp).pushCell (mRow comp)).heap[s.heap.size]? = some (mR2 cA s.heap.size) := by
  obtain ⟨a1, a2, a3, a4, -⟩ := mT2_f s cA comp
  exact (mTs_f (o' := mR3 cA s.heap.size) a1 (by omega) a2 a3 a4).2.2.2.2
theorem mT3_top (s : State) (f : JFrame) (cA comp : ClassId) : mT3 (s.setTop f) cA comp = (mT3 s cA comp).setTop f := by
  simp only [mT3, mT2, mT1, mT0, State.heap_setTop, State.pushCell_setTop, State.setCell_setTop]
section MWp
variable {E : CtlPost} {e : Env} {d : Bool} {acts : List Action} {s : State}
theorem wp_mRow {comp cc : ClassId} {kc : Class} {Q : Addr → Pre} (hk : s.vm.classes[comp]? = some kc) (hkind : kc.kind = .array cc .long) (hl : ¬ 256 > e.platform.arrayLengthLimit) (hh : ¬ 256 * componentBytes .long > e.platform.maxHeapBytes) (h1 : s.heap.size < e.platform.maxCells) (h2 : s.slotsUsed + 256 ≤ e.platform.maxSlots) (hq : ∀ a', Q s.heap.size d a' (s.pushCell (mRow comp))) : wp (Jvm.Op.multianewarray.make comp [256]) Q E e d acts s := by
  have hm : ¬ (256 : Int32) < 0 := by decide
  have hc : (256 : Int32).toNatClampNeg = 256 := by decide
  rw [Jvm.Op.multianewarray.make]
  simp only [wp_bind', Jvm.W.ite, hm, if_false, wp_pure', Jvm.W.theClass, hk, hkind, Option.some.injEq, exists_eq_left', hc]
  exact Jvm.W.newArray_of hk hkind hl hh h1 h2 rfl hq
theorem fit_ref {cA : ClassId} {k : Class} {cc : ClassId} (hk : s.vm.classes[cA]? = some k) (hkind : k.kind = .array cc (.array .long)) (i : Nat) (a : Addr) : s.fitsSlot cA .none i (.ref a) = true := by
  simp [State.fitsSlot, State.slotType?, hk, hkind, fits]
theorem wp_mRows {cA comp cc : ClassId} {k kc : Class} {Q : Addr → Pre} (hk : s.vm.classes[cA]? = some k) (hkind : k.kind = .array comp (.array .long)) (hkc : s.vm.classes[comp]? = some kc) (hkindc : kc.kind = .array cc .long) (hl : ¬ 3 > e.platform.arrayLengthLimit) (hh : ¬ 3 * componentBytes (.array .long) > e.platform.maxHeapBytes) (hl2 : ¬ 256 > e.platform.arrayLengthLimit) (hh2 : ¬ 256 * componentBytes .long > e.platform.maxHeapBytes) (h1 : s.heap.size + 4 ≤ e.platform.maxCells) (h2 : s.slotsUsed + 771 ≤ e.platform.maxSlots)
    (hq : ∀ d' a', Q s.heap.size d' a' (mT3 s cA comp)) : wp (Jvm.Op.multianewarray.make cA [3, 256]) Q E e d acts s := by
  have hn : ¬ (3 : Int32) < 0 := by decide
  have hc : (3 : Int32).toNatClampNeg = 3 := by decide
  have h0 : ((3 : Int32) == 0) = false := by decide
  obtain ⟨a1, a2, a3, a4⟩ := mT0_f s cA
  obtain ⟨b1, b2, b3, b4, b5⟩ := mT1_f s cA comp
  obtain ⟨c1, c2, c3, c4, c5⟩ := mT2_f s cA comp
  have d5 := mT3_f s cA comp
  rw [Jvm.Op.multianewarray.make]
  simp only [wp_bind', Jvm.W.ite, hn, if_false, wp_pure', Jvm.W.theClass, hk, hkind, Option.some.injEq, exists_eq_left', hc, h0, Bool.false_eq_true]
  refine Jvm.W.newArray_of hk hkind hl hh (by omega) (by omega) rfl (fun a' => ?_)
  show wp _ _ E e d a' (mT0 s cA)
  rw [wp_bind', Std.Legacy.Range.forIn_eq_forIn_range']
  show wp (forIn [0, 1, 2] PUnit.unit _) _ E e d a' (mT0 s cA)
  simp only [List.forIn_cons, List.forIn_nil, wp_bind']
  refine wp_mRow (by rw [a3]; exact hkc) hkindc hl2 hh2 (by omega) (by omega) (fun a' => ?_)
  simp only [wp_bind', Jvm.W.writeLoc, wp_pure']
  refine ⟨mR0 cA, b5, (fun q => by cases q), by simp [mR0], fit_ref (by show (mT0 s cA).vm.classes[cA]? = _; rw [a3]; exact hk) hkind _ _, ?_⟩
  rw [a1]
  show wp _ _ E e _ _ (mT1 s cA comp)
  refine wp_mRow (by rw [b3]; exact hkc) hkindc hl2 hh2 (by omega) (by omega) (fun a' => ?_)
  simp only [wp_bind', Jvm.W.writeLoc, wp_pure']
  refine ⟨mR1 cA s.heap.size, c5, (fun q => by cases q), by simp [mR1, mR0, Cell.setSlot], fit_ref (by show (mT1 s cA comp).vm.classes[cA]? = _; rw [b3]; exact hk) hkind _ _, ?_⟩
  rw [b1]
  show wp _ _ E e _ _ (mT2 s cA comp)
  refine wp_mRow (by rw [c3]; exact hkc) hkindc hl2 hh2 (by omega) (by omega) (fun a' => ?_)
  simp only [wp_bind', Jvm.W.writeLoc, wp_pure']
  refine ⟨mR2 cA s.heap.size, d5, (fun q => by cases q), by simp [mR2, mR1, mR0, Cell.setSlot], fit_ref (by show (mT2 s cA comp).vm.classes[cA]? = _; rw [c3]; exact hk) hkind _ _, ?_⟩
  rw [c1]
  exact hq _ _
end MWp
set_option maxRecDepth 4000 in
theorem mStand {p : Program} {l : Launch} {e : Env} {R : Room} {s : State} {m : MethodId} {args : Array Value} {below : List Frame} {meth : Method} {c : Code} {T : State} {locs : List Loc} {cells slots : Nat} (X : Stand p l e R s m args below meth c T locs cells slots) (cA comp : ClassId) (hs : s.heap.size ≤ T.heap.size) : Stand p l e R s m args below meth c (mT3 T cA comp) locs (cells + 4) (slots + 771) := by
  have e0 : (mR0 cA).slots.size = 3 := by simp [mR0]
  have e1 : (mRow comp).slots.size = 256 := by simp [mRow]
  have x0 := X.pushed (mR0 cA)
  rw [e0] at x0
  have x1 := (x0.pushed (mRow comp)).stored (mT1_f T cA comp).2.2.2.2 0 (.ref (T.heap.size + 1))
  rw [e1] at x1
  have x2 := (x1.pushed (mRow comp)).stored (mT2_f T cA comp).2.2.2.2 1 (.ref (T.heap.size + 2))
  rw [e1] at x2
  have x3 := (x2.pushed (mRow comp)).stored (mT3_f T cA comp) 2 (.ref (T.heap.size + 3))
  rw [e1] at x3
  rw [List.append_assoc, List.append_assoc, show slots + 3 + 256 + 256 + 256 = slots + 771 by omega, show cells + 1 + 1 + 1 + 1 = cells + 4 by omega] at x3
  have x4 := Jvm.Stand.forget x3 (fun y hy => by
    simp only [List.mem_append, List.mem_singleton] at hy
    rcases hy with rfl | rfl | rfl <;> exact hs)
  unfold mT3 mT2 mT1 mT0 mR3 mR2 mR1
  exact x4
def mO (cA : ClassId) (h : Nat) : Cell := arrV cA 3 (fun j => .ref (h + 1 + j))
theorem mO_eq (cA : ClassId) (h : Nat) : mR3 cA h = mO cA h := by
  unfold mO arrV
  simp only [mR3, mR2, mR1, mR0, Cell.setSlot]
  congr 1
theorem mI_gn (comp : ClassId) (n : Nat) (v : Value) : ({ cls := comp, slots := Array.replicate n v, vm := .none } : Cell) = arrV comp n (fun _ => v) := by
  unfold arrV
  congr 1
  apply Array.ext
  · simp
  · intro i h1 h2
    simp
theorem mI_eq (comp : ClassId) : mRow comp = arrV comp 256 (fun _ => .long 0) := by
  rw [← mI_gn]
  unfold mRow
  exact rfl
theorem mH_eq (H : Array Cell) (o0 o1 o2 o3 c : Cell) : ((((((H.push o0).push c).setIfInBounds H.size o1).push c).setIfInBounds H.size o2).push c).setIfInBounds H.size o3 = (((H.push o3).push c).push c).push c := by
  apply Array.ext'
  simp [List.set_append]
theorem mF_eq (T : State) (cA comp : ClassId) : (mT3 T cA comp).heap = (((T.heap.push (mO cA T.heap.size)).push (arrV comp 256 (fun _ => .long 0))).push (arrV comp 256 (fun _ => .long 0))).push (arrV comp 256 (fun _ => .long 0)) := by
  rw [← mO_eq, ← mI_eq comp]
  exact mH_eq T.heap _ _ _ _ _
theorem mStep {p : Program} {l : Launch} {e : Env} {R : Room} {s : State} {m : MethodId} {args : Array Value} {below : List Frame} {meth : Method} {c : Code} {T : State} {locs : List Loc} {cells slots : Nat} (X : Stand p l e R s m args below meth c T locs cells slots) (hexec : p.tables.exec = Jvm.exec) {own : String} {index : Nat} (hown : s.vm.findClass own = some m.cls) (hclink : (Cond.classLink own index ("[" ++ (FieldType.array .long).toString)).before args s = true) (hover : (Cond.arrayOver (.array .long)).before args s = true) (harr : (Cond.arrayClass .long).before args s = true)
    {g : JFrame} (hg : g.method = m) (hdg : decode c.code g.pc = .ok (.multianewarray index 2, 4)) {rest : List Value} (hstack : g.stack = .int 256 :: .int 3 :: rest) (hcells : cells + 4 ≤ R.cells) (hslots : slots + 771 ≤ R.slots) :
    ∃ (vm₁ : Vm) (cA comp : ClassId), s.vm.findClass ("[" ++ (FieldType.array .long).toString) = some cA ∧ s.vm.findClass (FieldType.array .long).toString = some comp ∧ Stand p l e R s m args below meth c (mT3 (T.setVm vm₁) cA comp) locs (cells + 4) (slots + 771) ∧
      ∀ target, Steps p.tables e below ((mT3 (T.setVm vm₁) cA comp).setTop { g with pc := g.pc + 4, stack := .ref T.heap.size :: rest }) target → Steps p.tables e below (T.setTop g) target := by
  subst hg
  have hpl : e.platform.magicAccessors = ({} : Platform).magicAccessors := by rw [X.admits.platform]
  obtain ⟨comp, cA, kA, hcomp, -, hkA, hkindA, hnameA⟩ := arrayOverA_spec hover
  obtain ⟨comp', kC, cc, hcomp', hkC, hkindC⟩ := Cond.arrayClass_spec harr
  have ec : comp' = comp := Option.some.inj (hcomp'.symm.trans hcomp)
  subst ec
  obtain ⟨c0, hf0, hcl⟩ := Cond.classLink_spec hown hclink e.platform hpl
  cases hnameA.symm.trans hf0
  obtain ⟨hg₁, hwarm₁, -⟩ := State.classEntry (e := e) X.warmed hcl
  generalize T.vm.noted g.method.cls index (.cls cA) = vm₁ at hg₁ hwarm₁
  have hal : s.vm.Alike vm₁ := hwarm₁.alike
  obtain ⟨kA₁, hkA₁, heA⟩ := hal.2.2 _ _ hkA
  obtain ⟨kC₁, hkC₁, heC⟩ := hal.2.2 _ _ hkC
  have hkindA₁ : kA₁.kind = .array comp' (.array .long) := by rw [heA]; exact hkindA
  have hkindC₁ : kC₁.kind = .array cc .long := by rw [heC]; exact hkindC
  have XF := mStand (X.noted hwarm₁) cA comp' X.heapGrown
  obtain ⟨hr1, hr2⟩ := X.roomAbove hcells hslots
  refine ⟨vm₁, cA, comp', hnameA, hcomp, XF, fun target hrest => ?_⟩
  have hl1 : ¬ 3 > e.platform.arrayLengthLimit := by rw [Launch.admits_arrayLengthLimit X.admits]; decide
  have hh1 : ¬ 3 * componentBytes (.array .long) > e.platform.maxHeapBytes := by rw [Launch.admits_maxHeapBytes X.admits]; decide
  have hl2 : ¬ 256 > e.platform.arrayLengthLimit := by rw [Launch.admits_arrayLengthLimit X.admits]; decide
  have hh2 : ¬ 256 * componentBytes .long > e.platform.maxHeapBytes := by rw [Launch.admits_maxHeapBytes X.admits]; decide
  jvm_step X.here [hexec, hdg]
  simp only [Jvm.Op.multianewarray.sem, wp_bind', Jvm.W.resolveClassAt_links (State.method?_setTop g X.here.top) hg₁]
  rw [Jvm.W.popN, if_neg (by decide)]
  refine ⟨g, State.topJava?_setTop' (s := T.setVm vm₁) g X.here.top, [.int 3, .int 256], rest, rfl, hstack, ?_⟩
  simp only [List.mapM_cons, List.mapM_nil, wp_bind', wp_pure']
  refine wp_mRows (k := kA₁) (kc := kC₁) (comp := comp') (cc := cc) hkA₁ hkindA₁ hkC₁ hkindC₁ hl1 hh1 hl2 hh2 hr1 hr2 (fun d' a' => ?_)
  have eS : ((T.setTop g).setVm vm₁).setTop { g with stack := rest } = (T.setVm vm₁).setTop { g with stack := rest } := by
    show ((T.setVm vm₁).setTop g).setTop _ = _
    rw [State.setTop_setTop]
  rw [eS, mT3_top]
  simp only [wp_bind', Jvm.W.mark, Jvm.W.pushRef, State.topJava?_setTop' _ XF.here.top, Option.some.injEq, exists_eq_left', State.setTop_setTop, State.heap_setTop]
  intro acts
  simp [jvm, XF.here.top]
  exact hrest
theorem sJJ : "[" ++ (FieldType.array .long).toString = "[[J" := by decide
section GMulti
variable {l : Launch} {M : gM} {d bc bs : Nat} {post : Option Value → gH → Prop} {σ : gH} {pc : Nat} {ls : List (Option Value)} {rest : List Value}
theorem g_multi {idx : Nat} (hd : decode M.2.1 pc = .ok (.multianewarray idx 2, 4)) (hcl : Cond.classLink M.1.cls idx "[[J" ∈ lw_g) (hbc : 4 ≤ bc) (hbs : 771 ≤ bs) (kk : ∀ (q : Nat), σ q = none → (su σ q (gAq (.array .long) 3 (fun k => some (q + 1 + k)))) (q + 1) = none → (su (su σ q (gAq (.array .long) 3 (fun k => some (q + 1 + k)))) (q + 1) (gAl 256 (fun _ => 0))) (q + 1 + 1) = none → (su (su (su σ q (gAq (.array .long) 3 (fun k => some (q + 1 + k)))) (q + 1) (gAl 256 (fun _ => 0))) (q + 1 + 1) (gAl 256 (fun _ => 0))) (q + 1 + 1 + 1) = none → G l M d (bc - 4) (bs - 771) post (su (su (su (su σ q (gAq (.array .long) 3 (fun k => some (q + 1 + k)))) (q + 1) (gAl 256 (fun _ => 0))) (q + 1 + 1) (gAl 256 (fun _ => 0))) (q + 1 + 1 + 1) (gAl 256 (fun _ => 0))) (pc + 4) ls (.ref q :: rest)) : G l M d bc bs post σ pc ls (.int 256 :: .int 3 :: rest) := by
  intro p e R s m args below meth c D aC A k0 n0 X H locs cells slots lsA hH hS h1 h2 h3 h4 hl
  have hts := X.2.2.2.2.1
  have hK := X.2.2.2.2.2.2.2.2.1
  have hng := X.2.2.2.2.2.2.2.2.2.2.2.2.2
  have hA := X.2.2.2.2.2.2.2.2.2.1
  have hl1 : (Cond.classLink M.1.cls idx ("[" ++ (FieldType.array .long).toString)).before args s = true := by rw [sJJ]; exact hts _ hcl
  have hl2 : (Cond.arrayOver (.array .long)).before args s = true := hng.2.2.2.2
  have hl3 : (Cond.arrayClass .long).before args s = true := hts _ ac_long
  have hdc : decode c.code pc = .ok (.multianewarray idx 2, 4) := by rw [X.2.1]; exact hd
  intro T hT Y
  subst hT
  obtain ⟨vm₁, cA, comp, f1, f2, Y', st⟩ := mStep Y X.1 X.2.2.2.1 hl1 hl2 hl3 (g := F0 m pc lsA (.int 256 :: .int 3 :: rest)) rfl hdc (rest := rest) rfl (by omega) (by omega)
  have hheap := mF_eq (T.setVm vm₁) cA comp
  generalize mT3 (T.setVm vm₁) cA comp = T' at Y' st hheap
  have ht6 : (gT aC)[6]? = some (aC (.array .long), .array .long) := rfl
  have ht1 : (gT aC)[1]? = some (aC .long, .long) := rfl
  have r1 : s.vm.findClass ("[" ++ FieldType.long.toString) = some (aC .long) := (hK.2 1 _ ht1).2
  have hco : comp = aC .long := Option.some.inj (f2.symm.trans r1)
  subst hco
  have y4 : s.vm.findClass ("[" ++ (FieldType.array .long).toString) = some (aC (.array .long)) := (hK.2 6 _ ht6).2
  have hcA : cA = aC (.array .long) := Option.some.inj (f1.symm.trans y4)
  subst hcA
  obtain ⟨g1, g2⟩ := gHold.push (H1 := T.heap.push (mO (aC (.array .long)) T.heap.size)) (c := gAq (.array .long) 3 (fun k => some (T.heap.size + 1 + k))) hH hS hA (by show (T.heap.push _)[T.heap.size]? = some (vp_cell _ _); rw [vp_cell_q, Array.getElem?_push_size]; rfl) (Array.size_push _) (fun q hq => by rw [Array.getElem?_push, if_neg (Nat.ne_of_lt hq)])
  generalize hH1 : T.heap.push (mO (aC (.array .long)) T.heap.size) = H1 at g1 g2
  have z1 : H1.size = T.heap.size + 1 := by rw [← hH1, Array.size_push]
  have fr1 := g1.fresh (Nat.le_refl _)
  obtain ⟨g3, g4⟩ := gHold.push (H1 := H1.push (arrV (aC .long) 256 (fun _ => .long 0))) (c := gAl 256 (fun _ => 0)) g1 g2 hA (by show (H1.push _)[H1.size]? = some (vp_cell _ _); rw [vp_cell_l, Array.getElem?_push_size]) (Array.size_push _) (fun q hq => by rw [Array.getElem?_push, if_neg (Nat.ne_of_lt hq)])
  generalize hH2 : H1.push (arrV (aC .long) 256 (fun _ => .long 0)) = H2 at g3 g4
  have z2 : H2.size = H1.size + 1 := by rw [← hH2, Array.size_push]
  have fr2 := g3.fresh (Nat.le_refl _)
  obtain ⟨g5, g6⟩ := gHold.push (H1 := H2.push (arrV (aC .long) 256 (fun _ => .long 0))) (c := gAl 256 (fun _ => 0)) g3 g4 hA (by show (H2.push _)[H2.size]? = some (vp_cell _ _); rw [vp_cell_l, Array.getElem?_push_size]) (Array.size_push _) (fun q hq => by rw [Array.getElem?_push, if_neg (Nat.ne_of_lt hq)])
  generalize hH3 : H2.push (arrV (aC .long) 256 (fun _ => .long 0)) = H3 at g5 g6
  have z3 : H3.size = H2.size + 1 := by rw [← hH3, Array.size_push]
  have fr3 := g5.fresh (Nat.le_refl _)
  obtain ⟨g7, g8⟩ := gHold.push (H1 := H3.push (arrV (aC .long) 256 (fun _ => .long 0))) (c := gAl 256 (fun _ => 0)) g5 g6 hA (by show (H3.push _)[H3.size]? = some (vp_cell _ _); rw [vp_cell_l, Array.getElem?_push_size]) (Array.size_push _) (fun q hq => by rw [Array.getElem?_push, if_neg (Nat.ne_of_lt hq)])
  have hheap' : T'.heap = H3.push (arrV (aC .long) 256 (fun _ => .long 0)) := by
    rw [hheap, ← hH3, ← hH2, ← hH1]
    rfl
  rw [z3, z2, z1] at g7
  rw [z3, z2, z1] at fr3
  rw [z2, z1] at fr2
  rw [z1] at fr1
  have key := kk T.heap.size (hH.fresh (Nat.le_refl _)) fr1 fr2 fr3 p e R s m args below meth c D aC A k0 n0 X (H3.push (arrV (aC .long) 256 (fun _ => .long 0))) locs (cells + 4) (slots + 771) lsA g7 g8 (by omega) (by omega) h3 h4 hl
  obtain ⟨t, a1, b1⟩ := key T' hheap' Y'
  exact ⟨t, st t a1, b1⟩
theorem arrV_cg (cA : ClassId) (n : Nat) {f f' : Nat → Value} (h : ∀ k, k < n → f k = f' k) : arrV cA n f = arrV cA n f' := by
  unfold arrV
  congr 1
  congr 1
  funext j
  exact h j.val j.isLt
/-- a row of references is what it holds below its length -/
theorem g_ext {a n : Nat} {ty : FieldType} {f f' : Nat → Option Nat} (ha : σ a = some (gAq ty n f)) (hf : ∀ k, k < n → f k = f' k) (kk : G l M d bc bs post (su σ a (gAq ty n f')) pc ls rest) : G l M d bc bs post σ pc ls rest := by
  intro p e R s m args below meth c D aC A k0 n0 X H locs cells slots lsA hH hS h1 h2 h3 h4 hl
  refine kk p e R s m args below meth c D aC A k0 n0 X H locs cells slots lsA (fun b x hb => ?_) hS h1 h2 h3 h4 hl
  by_cases e : b = a
  · subst e
    rw [su_self] at hb
    obtain rfl := Option.some.inj hb
    obtain ⟨q1, q2⟩ := hH b _ ha
    refine ⟨?_, q2⟩
    have q1' : H[b]? = some (arrV (aC ty) n (fun j => va_rf (f j))) := q1
    show H[b]? = some (arrV (aC ty) n (fun j => va_rf (f' j)))
    rw [q1', arrV_cg _ _ (fun k hk => by rw [hf k hk])]
  · rw [su_ne _ _ e] at hb
    exact hH b x hb
end GMulti
