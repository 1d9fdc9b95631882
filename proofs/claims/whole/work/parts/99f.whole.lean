/-! THE CLAIM OUT OF ONE WALK OF THE LAW'S BODY. Your part is whole_start (and what it stands on); all else here is the same for every law, but numbers. -/
def R_law : String := "DivideSmithLaw"
def lw_P (b : Addr) (xs : List Int32) (args : Array Value) (s : State) : Prop := args = #[.ref b] ∧ s.IntsAt b xs ∧ xs.length ≤ 4096 ∧ (Jvm.Cond.and given_1 narrow_1).before args s = true
def lw_Q (_ : Array Value) (s : State) (o : Outcome) (t : State) : Prop := o = .returned (some (.int 1)) ∧ Framed s o t [] 600000 7302250
def lw_Z (below : List Frame) (a : Array Value) (s : State) : State → Prop := fun t => ∃ o, t.status = .running ∧ Ended t below o ∧ lw_Q a s o t
/-- the law's own end, with 1 on the stack, nothing written that was there before, its room as the claim has it -/
theorem lw_ret {p : Program} {l : Launch} {e : Env} {s : State} {m : MethodId} {below : List Frame} {meth : Method} {c : Code} {b : Nat} (hx : p.tables.exec = Jvm.exec) (hb : c.code = code) (hr : meth.sig.returnType = ret) (hlocks : meth.locks = false) {pc : Nat} {H : Heap} {ls : Array Slot} (hdg : decode code pc = .ok (.ireturn, 1)) : W p l e room_1 s m #[Value.ref b] below meth c H [] 600000 7302250 (lw_Z below #[Value.ref b] s) (F0 m pc ls [.int 1]) := by
  intro T hT X
  obtain ⟨fs, hret, hrun, hended, hW, hframe⟩ := X.leave (v := some (.int 1)) (hlocks := hlocks) (fun h => by rw [hr] at h; cases h)
  have hmeth' : T.vm.method? m = some meth := X.method'
  refine ⟨T.setFrames fs, ?_, .returned (some (.int 1)), hrun, hended, rfl, ⟨_, rfl⟩, hW, hframe⟩
  jvm_step X.here [X.here.top, hx, hb, hdg, hmeth', hr, ret, narrow_b1]
  (try refine ⟨rfl, ?_⟩); (try refine ⟨rfl, ?_⟩)
  first | (intro acts; rw [hret _ acts rfl rfl rfl]) | rw [hret _ _ rfl rfl rfl]
  exact Steps.refl _
/-- what holds at the law's entry: the machine, the code, the tables' words (any of lw_tbl by 'hts w (by decide +kernel)'), the script of L ints xs at the cell b, what the Statement gives of the start (any of its parts by flat_of_before) -/
def lw_At (p : Program) (s : State) (m : MethodId) (meth : Method) (c : Code) (b L : Nat) (xs : Nat → Int32) : Prop :=
  p.tables.exec = Jvm.exec ∧ c.code = code ∧ meth.sig.returnType = ret ∧ c.maxLocals = 4 ∧ s.vm.findClass R_law = some m.cls ∧ (∀ w ∈ lw_tbl, w.before #[Value.ref b] s = true) ∧ va_X b L xs s s.heap ∧ b < s.heap.size ∧ meth.locks = false ∧ (Jvm.Cond.and given_1 narrow_1).before #[Value.ref b] s = true ∧ meth.name = "law"
theorem kn_of {s : State} {args : Array Value} (htg : ∀ w ∈ lw_g, w.before args s = true) {own : String} {idx ci N : Nat} {fs : List Value} (h : gNw own idx ci N fs) : ∃ (cC : ClassId) (iS : Nat → Nat), ∀ q, gcl[ci]? = some q → u_Kn s q.1 q.2.1 q.2.2 cC iS := by
  obtain ⟨C, T, ty, hc, hin, -, -, hinst, -, -⟩ := h
  obtain ⟨cC, iS, hk⟩ := u_known htg hin (htg _ hinst)
  refine ⟨cC, iS, fun q hq => ?_⟩
  cases hc.symm.trans hq
  exact hk
theorem kn_all {s : State} {args : Array Value} (htg : ∀ w ∈ lw_g, w.before args s = true) (k : Nat) : ∃ (cC : ClassId) (iS : Nat → Nat), ∀ q, gcl[k]? = some q → u_Kn s q.1 q.2.1 q.2.2 cC iS := by
  match k with
  | 0 => exact kn_of htg nwX4_9
  | 1 => exact kn_of htg nwX10_109
  | 2 => exact kn_of htg nwX10_9
  | 3 => exact kn_of htg nwX10_36
  | 4 => exact kn_of htg nwX10_23
  | 5 => exact kn_of htg nwX9_91
  | 6 => exact kn_of htg nwX10_43
  | 7 => exact kn_of htg nwX10_114
  | 8 => exact kn_of htg nwL_7
  | 9 => exact kn_of htg nwL_10
  | k + 10 => exact ⟨0, fun _ => 0, fun q hq => by simp [gcl] at hq⟩
theorem ar_cls {s : State} {args : Array Value} {ty : FieldType} (h : (Cond.arrayClass ty).before args s = true) : ∃ cA, ArrOfT s cA ty ∧ s.vm.findClass ("[" ++ ty.toString) = some cA := by
  obtain ⟨c, k, comp, h1, h2, h3⟩ := Cond.arrayClass_spec h
  exact ⟨c, fun n z => ⟨(fun k0 h0 => by cases h0), k, h2, comp, h3⟩, h1⟩
theorem ar_obj {s : State} {C : String} (h : va_AO C s) : ∃ cA, ArrOfT s cA (.object C) ∧ va_RA s cA (.object C) := by
  obtain ⟨comp, c, k, h1, h2, h3, h4, h5⟩ := Cond.arrayOver_spec h
  exact ⟨c, fun n z => ⟨(fun k0 h0 => by cases h0), k, h3, comp, h4⟩, k, comp, h3, h4, h1, h5⟩
theorem ar_arr {s : State} (h : gOvA s) : ∃ cA, ArrOfT s cA (.array .long) ∧ va_RA s cA (.array .long) := by
  obtain ⟨comp, c, k, h1, h2, h3, h4, h5⟩ := arrayOverA_spec h
  exact ⟨c, fun n z => ⟨(fun k0 h0 => by cases h0), k, h3, comp, h4⟩, h5⟩
theorem ar_all {s : State} {args : Array Value} (htg : ∀ w ∈ lw_g, w.before args s = true) (hng : gNg s) (ty : FieldType) : ∃ cA, ty ∈ gTy → ArrOfT s cA ty ∧ va_RA s cA ty := by
  by_cases h : ty ∈ gTy
  · have h' : ty ∈ ([.int, .long, .boolean, .object RX3, .object RX5, .object RX0, .array .long] : List FieldType) := h
    simp only [List.mem_cons, List.not_mem_nil, or_false] at h'
    rcases h' with rfl | rfl | rfl | rfl | rfl | rfl | rfl
    · obtain ⟨c, h1, h2⟩ := ar_cls (htg _ ac_int)
      exact ⟨c, fun _ => ⟨h1, h2⟩⟩
    · obtain ⟨c, h1, h2⟩ := ar_cls (htg _ ac_long)
      exact ⟨c, fun _ => ⟨h1, h2⟩⟩
    · obtain ⟨c, h1, h2⟩ := ar_cls (htg _ ac_boolean)
      exact ⟨c, fun _ => ⟨h1, h2⟩⟩
    · obtain ⟨c, h1⟩ := ar_obj hng.2.1
      exact ⟨c, fun _ => h1⟩
    · obtain ⟨c, h1⟩ := ar_obj hng.2.2.1
      exact ⟨c, fun _ => h1⟩
    · obtain ⟨c, h1⟩ := ar_obj hng.2.2.2.1
      exact ⟨c, fun _ => h1⟩
    · obtain ⟨c, h1⟩ := ar_arr hng.2.2.2.2
      exact ⟨c, fun _ => h1⟩
  · exact ⟨0, fun z => absurd z h⟩
theorem K_all {s : State} {args : Array Value} (htg : ∀ w ∈ lw_g, w.before args s = true) (hng : gNg s) : ∃ (D : va_G) (aC : FieldType → ClassId), va_K D gcl (gT aC) s := by
  refine ⟨(fun k => Classical.choose (kn_all htg k), fun k => Classical.choose (Classical.choose_spec (kn_all htg k))), fun ty => Classical.choose (ar_all htg hng ty), ?_, ?_⟩
  · intro c q hq
    exact Classical.choose_spec (Classical.choose_spec (kn_all htg c)) q hq
  · intro k q hq
    unfold gT at hq
    rw [List.getElem?_map] at hq
    obtain ⟨ty, h1, h2⟩ := Option.map_eq_some_iff.mp hq
    subst h2
    exact Classical.choose_spec (ar_all htg hng ty) (List.mem_of_getElem? h1)
theorem ng_all {s : State} {args : Array Value} (hts : ∀ w ∈ lw_tbl, w.before args s = true) : gNg s :=
  ⟨⟨va_Nw.of rfl (hts _ (by decide +kernel)), va_Nw.of rfl (hts _ (by decide +kernel)), va_Nw.of rfl (hts _ (by decide +kernel)), va_Nw.of rfl (hts _ (by decide +kernel)), va_Nw.of rfl (hts _ (by decide +kernel))⟩, va_AO.of (hts _ (by decide +kernel)), va_AO.of (hts _ (by decide +kernel)), va_AO.of (hts _ (by decide +kernel)), hts (.arrayOver (.array .long)) (by decide +kernel)⟩
theorem st_all {s : State} {args : Array Value} (hts : ∀ w ∈ lw_tbl, w.before args s = true) (hgv : (Jvm.Cond.and given_1 narrow_1).before args s = true) : gSt (fun q => s.heap.size ≤ q) s s.heap := by
  have hs := flat_of_before _ hgv
  have hA : ∀ a : Nat, a < s.heap.size → ¬ (fun q => s.heap.size ≤ q) a := fun a h => Nat.not_le.mpr h
  obtain ⟨t1, e1, T1⟩ := va_Tof (A := fun q => s.heap.size ≤ q) (tm := .static RX10 "FIRST_PRICES" "[I") (ty := .int) (N := 13) (f := gFP) (by decide) (hs _ (by decide +kernel)) (va_eqt (hs (.eq (.length (.static RX10 "FIRST_PRICES" "[I")) (.int 13)) (by decide +kernel))) (fun j hj => by
    rcases (show j = 0 ∨ j = 1 ∨ j = 2 ∨ j = 3 ∨ j = 4 ∨ j = 5 ∨ j = 6 ∨ j = 7 ∨ j = 8 ∨ j = 9 ∨ j = 10 ∨ j = 11 ∨ j = 12 by omega) with rfl | rfl | rfl | rfl | rfl | rfl | rfl | rfl | rfl | rfl | rfl | rfl | rfl
    · exact va_eqt (z := 1) (hs (.eq (.elem (.static RX10 "FIRST_PRICES" "[I") (.int 0)) (.int 1)) (by decide +kernel))
    · exact va_eqt (z := 1) (hs (.eq (.elem (.static RX10 "FIRST_PRICES" "[I") (.int 1)) (.int 1)) (by decide +kernel))
    · exact va_eqt (z := 4) (hs (.eq (.elem (.static RX10 "FIRST_PRICES" "[I") (.int 2)) (.int 4)) (by decide +kernel))
    · exact va_eqt (z := 4) (hs (.eq (.elem (.static RX10 "FIRST_PRICES" "[I") (.int 3)) (.int 4)) (by decide +kernel))
    · exact va_eqt (z := 3) (hs (.eq (.elem (.static RX10 "FIRST_PRICES" "[I") (.int 4)) (.int 3)) (by decide +kernel))
    · exact va_eqt (z := 1) (hs (.eq (.elem (.static RX10 "FIRST_PRICES" "[I") (.int 5)) (.int 1)) (by decide +kernel))
    · exact va_eqt (z := 1) (hs (.eq (.elem (.static RX10 "FIRST_PRICES" "[I") (.int 6)) (.int 1)) (by decide +kernel))
    · exact va_eqt (z := 1) (hs (.eq (.elem (.static RX10 "FIRST_PRICES" "[I") (.int 7)) (.int 1)) (by decide +kernel))
    · exact va_eqt (z := 1) (hs (.eq (.elem (.static RX10 "FIRST_PRICES" "[I") (.int 8)) (.int 1)) (by decide +kernel))
    · exact va_eqt (z := 1) (hs (.eq (.elem (.static RX10 "FIRST_PRICES" "[I") (.int 9)) (.int 1)) (by decide +kernel))
    · exact va_eqt (z := 1) (hs (.eq (.elem (.static RX10 "FIRST_PRICES" "[I") (.int 10)) (.int 1)) (by decide +kernel))
    · exact va_eqt (z := 1) (hs (.eq (.elem (.static RX10 "FIRST_PRICES" "[I") (.int 11)) (.int 1)) (by decide +kernel))
    · exact va_eqt (z := 1) (hs (.eq (.elem (.static RX10 "FIRST_PRICES" "[I") (.int 12)) (.int 1)) (by decide +kernel))) hA
  obtain ⟨t2, e2, T2⟩ := va_Tof (A := fun q => s.heap.size ≤ q) (tm := .static RX10 "TAKEN_FOR" "[I") (ty := .int) (N := 10) (f := gTF) (by decide) (hs _ (by decide +kernel)) (va_eqt (hs (.eq (.length (.static RX10 "TAKEN_FOR" "[I")) (.int 10)) (by decide +kernel))) (fun j hj => by
    rcases (show j = 0 ∨ j = 1 ∨ j = 2 ∨ j = 3 ∨ j = 4 ∨ j = 5 ∨ j = 6 ∨ j = 7 ∨ j = 8 ∨ j = 9 by omega) with rfl | rfl | rfl | rfl | rfl | rfl | rfl | rfl | rfl | rfl
    · exact va_eqt (z := 1) (hs (.eq (.elem (.static RX10 "TAKEN_FOR" "[I") (.int 0)) (.int 1)) (by decide +kernel))
    · exact va_eqt (z := 1) (hs (.eq (.elem (.static RX10 "TAKEN_FOR" "[I") (.int 1)) (.int 1)) (by decide +kernel))
    · exact va_eqt (z := 2) (hs (.eq (.elem (.static RX10 "TAKEN_FOR" "[I") (.int 2)) (.int 2)) (by decide +kernel))
    · exact va_eqt (z := 3) (hs (.eq (.elem (.static RX10 "TAKEN_FOR" "[I") (.int 3)) (.int 3)) (by decide +kernel))
    · exact va_eqt (z := 4) (hs (.eq (.elem (.static RX10 "TAKEN_FOR" "[I") (.int 4)) (.int 4)) (by decide +kernel))
    · exact va_eqt (z := 5) (hs (.eq (.elem (.static RX10 "TAKEN_FOR" "[I") (.int 5)) (.int 5)) (by decide +kernel))
    · exact va_eqt (z := 2) (hs (.eq (.elem (.static RX10 "TAKEN_FOR" "[I") (.int 6)) (.int 2)) (by decide +kernel))
    · exact va_eqt (z := 2) (hs (.eq (.elem (.static RX10 "TAKEN_FOR" "[I") (.int 7)) (.int 2)) (by decide +kernel))
    · exact va_eqt (z := 3) (hs (.eq (.elem (.static RX10 "TAKEN_FOR" "[I") (.int 8)) (.int 3)) (by decide +kernel))
    · exact va_eqt (z := 2) (hs (.eq (.elem (.static RX10 "TAKEN_FOR" "[I") (.int 9)) (.int 2)) (by decide +kernel))) hA
  exact ⟨t1, t2, ⟨va_Zref (hts _ (by decide +kernel)) (hts _ (by decide +kernel)) e1 hA, T1⟩, va_Zref (hts _ (by decide +kernel)) (hts _ (by decide +kernel)) e2 hA, T2⟩
/-- from the entry, for every script of at most 4096 ints, the law comes to its end with true -/
theorem whole_start {p : Program} {e : Env} {s : State} {m : MethodId} {below : List Frame} {meth : Method} {c : Code} (l : Launch) {b L : Nat} {xs : Nat → Int32} (hL : L ≤ 4096) (C0 : lw_At p s m meth c b L xs) : W p l e room_1 s m #[Value.ref b] below meth c s.heap [] 0 0 (lw_Z below #[Value.ref b] s) (entryFrame m ([Value.ref b] : List Value).toArray 4) := by
  obtain ⟨hx, hb, hr, hml, hown, hts, hX, hbl, hlocks, hgv, hnm⟩ := C0
  have htg : ∀ w ∈ lw_g, w.before #[Value.ref b] s = true := fun w hw => hts w (List.mem_filter.mp hw).1
  have hng : gNg s := ng_all hts
  obtain ⟨D, aC, hK⟩ := K_all htg hng
  have hSt := st_all hts hgv
  have hl := lv_entry ([.ref b]) (n := 4) (Nat.le_of_ble_eq_true rfl)
  rw [lg_entry_eq]
  generalize (lg_sl ([.ref b]) ++ List.replicate (4 - (lg_sl ([.ref b])).length) Slot.unset).toArray = lsA at hl ⊢
  have K := law_G (l := l) (b := b) (L := L) (xs := xs) hL p e room_1 s m #[Value.ref b] below meth c D aC (fun q => s.heap.size ≤ q) 600000 7302250 ⟨hx, hb, hml, hown, htg, hr, hlocks, hnm, hK, fun q hq => hq, hSt, Nat.le_of_ble_eq_true rfl, Nat.le_of_ble_eq_true rfl, hng⟩ ⟨hX, hbl, Nat.not_le.mpr hbl⟩ s.heap [] 0 0 lsA (fun a c h => by cases h) va_S.rf (Nat.le_of_ble_eq_true rfl) (Nat.le_of_ble_eq_true rfl) (Nat.le_refl _) (Nat.le_refl _) hl
  intro T hT X0
  obtain ⟨t, a1, o, h1, h2, ⟨⟨v, σ, ho, hp, -⟩, -⟩, L', hfe, hfree⟩ := K T hT X0
  obtain ⟨f1, f2, g1, g2, g3, g4, g5, g6⟩ := hfe
  refine ⟨t, a1, o, h1, h2, ?_, f1, f2, g1, g2, g3, g4, g5, fun a c hc => ?_⟩
  · have hp' : v = some (.int 1) := hp
    rw [ho, hp']
  · obtain ⟨c', q1, q2, q3, q4⟩ := g6 a c hc
    refine ⟨c', q1, q2, q3, fun i _ => q4 i (fun z => ?_)⟩
    exact absurd (Array.getElem?_eq_some_iff.mp hc).1 (Nat.not_lt.mpr (hfree _ z))
set_option maxHeartbeats 4000000 in
theorem lw_walk (l : Launch) (b : Addr) (xs : List Int32) : MetFree l x (headSpec (Jvm.Cond.code x code maxLocals ret :: tables_1) room_1) (lw_P b xs) (fun _ _ _ _ _ => True) lw_Q := by
  refine MetFree.of_bodyS (code := code) (maxLocals := maxLocals) (ret := ret) (by decide) ?_ ?_
  · intro args s m h hn
    obtain ⟨meth, c, h1, h2, h3, h4, h5, h6, -, -⟩ := Cond.code_spec hn (atoms_spec (ws := Jvm.Cond.code x code maxLocals ret :: tables_1) h _ List.mem_cons_self)
    exact ⟨meth, c, h1, h2, h3, h4, h5, h6⟩
  · intro p e s m args below meth c s₁ B hml0 hP _
    obtain ⟨rfl, hx, hbd, hgv⟩ := hP
    obtain ⟨scr, harrAt, hlist, hof, hsmall⟩ := hx
    obtain ⟨hcb, hkn, -, -⟩ := State.arrayAt?_spec harrAt
    have hown : s.vm.findClass R_law = some m.cls := findClass_of_methodNamed B.named
    have hts0 : ∀ c ∈ (Jvm.Cond.code x code maxLocals ret :: tables_1), c.before #[Value.ref b] s = true := atoms_spec (ws := Jvm.Cond.code x code maxLocals ret :: tables_1) B.pre
    have hts : ∀ w ∈ lw_tbl, w.before #[Value.ref b] s = true := k2_hts_sels lw_privs (fun w hw => hts0 w (List.mem_cons_of_mem _ hw)) lw_privs_ok
    have hml : c.maxLocals = 4 := B.maxLocals_eq (hts0 _ List.mem_cons_self)
    have X₀ : Stand p l e room_1 s m #[Value.ref b] below meth c s₁ [] 0 0 := Stand.of_body B
    have hh0 : s₁.heap = s.heap := by rw [B.state]; rfl
    have hsz : scr.slots.size = xs.length := by rw [← Array.length_toList, hlist, List.length_map]
    have hval : ∀ j : Nat, j < xs.length → scr.slots[j]? = some (.int (xs.getD j 0)) := fun j hj => by
      rw [← Array.getElem?_toList, hlist]
      simp [hj]
    have hbl : b < s.heap.size := (Array.getElem?_eq_some_iff.mp hcb).1
    have hX : va_X b xs.length (fun j => xs.getD j 0) s s.heap := ⟨scr, hcb, hof, hkn, hsz, hval⟩
    have K : W p l e room_1 s m #[Value.ref b] below meth c s₁.heap [] 0 0 (lw_Z below #[Value.ref b] s) (entryFrame m ([Value.ref b] : List Value).toArray 4) := by
      rw [hh0]
      exact whole_start l hbd ⟨B.exec, B.bytes, B.returns, hml, hown, hts, hX, hbl, B.notSynchronized, hgv, (name_of_methodNamed B.named B.method).1⟩
    obtain ⟨t, a1, o, b1, b2, b3⟩ := K s₁ rfl X₀
    exact ⟨t, o, a1, b1, b2, b3⟩
theorem lw_pre_spec {args : Array Value} {s : State} (h : (Jvm.Cond.and given_1 narrow_1).before args s = true) (hr : rest_1_c.before args s = true) : ∃ (b : Addr) (xs : List Int32), lw_P b xs args s := by
  have hs := flat_of_before _ h
  have hq := flat_of_before _ hr
  have hc : (Cond.count 1).before args s = true := hs _ (by decide +kernel)
  have harr : (Cond.arrayOf (.arg 0) .int).before args s = true := hs _ (by decide +kernel)
  have hle : (Cond.le (.length (.arg 0)) (.int 4096)).before args s = true := hs _ (by decide +kernel)
  have hlen : (Cond.isInt (.length (.arg 0))).before args s = true := hq _ (by decide +kernel)
  have hall : (Cond.all (.arg 0) (.isInt (.elem (.arg 0) (.index 0)))).before args s = true := hq _ (by decide +kernel)
  obtain ⟨b, xs, hb, hx⟩ := State.ints_of_pre rfl harr hlen hall
  have hsm : xs.length < 2 ^ 31 := hx.choose_spec.2.2.2
  have hev : (Term.length (.arg 0)).eval args s none [] s = some (.int xs.length.toInt32) := hx.length_eval hb
  have hv := Cond.le_ints hev (show (Term.int 4096).eval args s none [] s = some (.int 4096) from rfl)
  have hd : xs.length.toInt32 ≤ 4096 := by
    simpa [Cond.before, Cond.holds, hv] using hle
  have hN : xs.length ≤ 4096 := (Int32.ofNat_le_ofNat hsm (by decide)).mp (show Int32.ofNat xs.length ≤ Int32.ofNat 4096 from hd)
  exact ⟨b, xs, Cond.one_arg hc (show args[0]? = some (.ref b) from hb), hx, hN, h⟩
theorem lw_comes (l : Launch) : Comes l x (Jvm.Cond.code x code maxLocals ret :: tables_1) room_1 (fun tb e args s => Calls_1 tb e args s ∧ rest_1 tb e args s ∧ Pre_1 tb e args s)
    (fun _ _ args s o t => lw_Q args s o t) := by
  intro p e ha hc hk s m args below hf hfit hheap happ hpre
  obtain ⟨b, xs, hP⟩ := lw_pre_spec hpre.2.2 hpre.2.1
  obtain ⟨k, o, h1, h2, h3, hQ⟩ := lw_walk l b xs p e ha hc hk s m args below hf ((Spec.applies_iff_loose hf).mp happ).1 hP trivial
  exact ⟨k, o, h1, h2, h3, hQ⟩
theorem lw_frame {s t : State} {o : Outcome} {args : Array Value} (h : Framed s o t [] 600000 7302250) :
    Framed s o t (fieldLocs frame_1_writes args s ++ arrayLocs frame_1_arrays args s ++ staticLocs frame_1_statics s) 600000 7302250 := h
theorem lw_limb (L : Cond) (hL : ∀ (args : Array Value) (s t : State), L.after args s (.returned (some (.int 1))) t = true) :
    ArmFor flags0 classFile x code maxLocals ret World_1 tables_1 room_1 Calls_1 rest_1 Pre_1
      (fun tb e a s o t => postC L tb e a s o t ∧ Framed s o t (fieldLocs frame_1_writes a s ++ arrayLocs frame_1_arrays a s ++ staticLocs frame_1_statics s) 600000 7302250) := by
  intro l _ _ _ p e ha hc hk s m args below hf hfit hheap happ hpre
  obtain ⟨k, o, h1, h2, h3, rfl, hF⟩ := lw_comes l p e ha hc hk s m args below hf hfit hheap happ hpre
  exact ⟨k, _, h1, h2, h3, hL args s _, lw_frame hF⟩
theorem i_vc : Claimed_1_1 ∧ Claimed_1_2 := ⟨lw_limb limb_1_1 (fun args s t => by simp [limb_1_1, Cond.after, Cond.holds, Cond.value]), lw_limb limb_1_2 (fun args s t => Cond.after_iff.mpr (by
  first | (rw [show limb_1_2 = Cond.eq .result (.int 1) from rfl, Cond.eq_ints (x := 1) (y := 1) rfl rfl]; simp; done) | (simp [limb_1_2, Cond.value, Term.eval]; done)))⟩
