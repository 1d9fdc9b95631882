/-! the rules of G again, for a walk that carries a fact about the state at its start (the law reads its script) -/
def GC (Cx : State → (Nat → Prop) → Prop) (l : Launch) (M : gM) (d bc bs : Nat) (post : Option Value → gH → Prop) (σ : gH) (pc : Nat) (ls : List (Option Value)) (st : List Value) : Prop :=
  ∀ (p : Program) (e : Env) (R : Room) (s : State) (m : MethodId) (args : Array Value) (below : List Frame) (meth : Method) (c : Code) (D : va_G) (aC : FieldType → ClassId) (A : Nat → Prop) (k0 n0 : Nat), gX p R s m args meth c M d D aC A → Cx s A →
    ∀ (H : Heap) (locs : List Loc) (cells slots : Nat) (lsA : Array Slot), gHold D aC σ A H → va_S A s.heap H locs → cells + bc ≤ k0 → slots + bs ≤ n0 → k0 ≤ R.cells → n0 ≤ R.slots → lv_has lsA M.2.2.1 (gLv 0 ls) →
      W p l e R s m args below meth c H locs cells slots (MQ below (gQ D aC A post) args s k0 n0 A) (F0 m pc lsA st)
section GRk
variable {Cx : State → (Nat → Prop) → Prop} {l : Launch} {M : gM} {d bc bs : Nat} {post : Option Value → gH → Prop} {σ : gH} {pc : Nat} {ls : List (Option Value)} {rest : List Value}
theorem gk_iload_n {j : Fin 4} {i : Nat} {x : Int32} (hd : decode M.2.1 pc = .ok (.iload_n j, 1)) (hi : (j : Nat) = i) (hv : ls[i]? = some (some (.int x))) (k : GC Cx l M d bc bs post σ (pc + 1) ls (.int x :: rest)) : GC Cx l M d bc bs post σ pc ls (rest) := by
  intro p e R s m args below meth c D aC A k0 n0 X hCx H locs cells slots lsA hH hS h1 h2 h3 h4 hl
  exact lv_iload_n X.1 X.2.1 hd hi (gLv_at hl hv) (k p e R s m args below meth c D aC A k0 n0 X hCx H locs cells slots lsA hH hS h1 h2 h3 h4 hl)
theorem gk_aload_n {j : Fin 4} {i : Nat} {x : Nat} (hd : decode M.2.1 pc = .ok (.aload_n j, 1)) (hi : (j : Nat) = i) (hv : ls[i]? = some (some (.ref x))) (k : GC Cx l M d bc bs post σ (pc + 1) ls (.ref x :: rest)) : GC Cx l M d bc bs post σ pc ls (rest) := by
  intro p e R s m args below meth c D aC A k0 n0 X hCx H locs cells slots lsA hH hS h1 h2 h3 h4 hl
  exact lv_aload_n X.1 X.2.1 hd hi (gLv_at hl hv) (k p e R s m args below meth c D aC A k0 n0 X hCx H locs cells slots lsA hH hS h1 h2 h3 h4 hl)
theorem gk_istore_n {j : Fin 4} {i : Nat} {x : Int32} {ls' : List (Option Value)} (hd : decode M.2.1 pc = .ok (.istore_n j, 1)) (hi : (j : Nat) = i) (hn : i < M.2.2.1) (h2 : gN2 ls i = true) (hs : ls.set i (some (.int x)) = ls') (k : GC Cx l M d bc bs post σ (pc + 1) ls' rest) : GC Cx l M d bc bs post σ pc ls (.int x :: rest) := by
  intro p e R s m args below meth c D aC A k0 n0 X hCx H locs cells slots lsA hH hS h1 h2' h3 h4 hl
  subst hs
  exact lv_istore_n X.1 X.2.1 hd hi hl hn rfl (fun lsA' hl' => k p e R s m args below meth c D aC A k0 n0 X hCx H locs cells slots lsA' hH hS h1 h2' h3 h4  (gLv_set1 h2 hl'))
theorem gk_astore_n {j : Fin 4} {i : Nat} {x : Nat} {ls' : List (Option Value)} (hd : decode M.2.1 pc = .ok (.astore_n j, 1)) (hi : (j : Nat) = i) (hn : i < M.2.2.1) (h2 : gN2 ls i = true) (hs : ls.set i (some (.ref x)) = ls') (k : GC Cx l M d bc bs post σ (pc + 1) ls' rest) : GC Cx l M d bc bs post σ pc ls (.ref x :: rest) := by
  intro p e R s m args below meth c D aC A k0 n0 X hCx H locs cells slots lsA hH hS h1 h2' h3 h4 hl
  subst hs
  exact lv_astore_n X.1 X.2.1 hd hi hl hn rfl (fun lsA' hl' => k p e R s m args below meth c D aC A k0 n0 X hCx H locs cells slots lsA' hH hS h1 h2' h3 h4  (gLv_set1 h2 hl'))
theorem gk_iconst {n : Int} {v : Int32} (hd : decode M.2.1 pc = .ok (.iconst n, 1)) (hv : Int32.ofInt n = v) (k : GC Cx l M d bc bs post σ (pc + 1) ls (.int v :: rest)) : GC Cx l M d bc bs post σ pc ls (rest) := by
  intro p e R s m args below meth c D aC A k0 n0 X hCx H locs cells slots lsA hH hS h1 h2 h3 h4 hl
  exact lv_iconst X.1 X.2.1 hd hv (k p e R s m args below meth c D aC A k0 n0 X hCx H locs cells slots lsA hH hS h1 h2 h3 h4 hl)
theorem gk_bipush {n : Int} {v : Int32} (hd : decode M.2.1 pc = .ok (.bipush n, 2)) (hv : (Int8.ofInt n).toInt32 = v) (k : GC Cx l M d bc bs post σ (pc + 2) ls (.int v :: rest)) : GC Cx l M d bc bs post σ pc ls (rest) := by
  intro p e R s m args below meth c D aC A k0 n0 X hCx H locs cells slots lsA hH hS h1 h2 h3 h4 hl
  exact lv_bipush X.1 X.2.1 hd hv (k p e R s m args below meth c D aC A k0 n0 X hCx H locs cells slots lsA hH hS h1 h2 h3 h4 hl)
theorem gk_iadd {x y : Int32} (hd : decode M.2.1 pc = .ok (.iadd, 1)) (k : GC Cx l M d bc bs post σ (pc + 1) ls (.int (x + y) :: rest)) : GC Cx l M d bc bs post σ pc ls (.int y :: .int x :: rest) := by
  intro p e R s m args below meth c D aC A k0 n0 X hCx H locs cells slots lsA hH hS h1 h2 h3 h4 hl
  exact lv_iadd X.1 X.2.1 hd (k p e R s m args below meth c D aC A k0 n0 X hCx H locs cells slots lsA hH hS h1 h2 h3 h4 hl)
theorem gk_isub {x y : Int32} (hd : decode M.2.1 pc = .ok (.isub, 1)) (k : GC Cx l M d bc bs post σ (pc + 1) ls (.int (x - y) :: rest)) : GC Cx l M d bc bs post σ pc ls (.int y :: .int x :: rest) := by
  intro p e R s m args below meth c D aC A k0 n0 X hCx H locs cells slots lsA hH hS h1 h2 h3 h4 hl
  exact lv_isub X.1 X.2.1 hd (k p e R s m args below meth c D aC A k0 n0 X hCx H locs cells slots lsA hH hS h1 h2 h3 h4 hl)
theorem gk_iand {x y : Int32} (hd : decode M.2.1 pc = .ok (.iand, 1)) (k : GC Cx l M d bc bs post σ (pc + 1) ls (.int (x &&& y) :: rest)) : GC Cx l M d bc bs post σ pc ls (.int y :: .int x :: rest) := by
  intro p e R s m args below meth c D aC A k0 n0 X hCx H locs cells slots lsA hH hS h1 h2 h3 h4 hl
  exact lv_iand X.1 X.2.1 hd (k p e R s m args below meth c D aC A k0 n0 X hCx H locs cells slots lsA hH hS h1 h2 h3 h4 hl)
theorem gk_i2l {x : Int32} (hd : decode M.2.1 pc = .ok (.i2l, 1)) (k : GC Cx l M d bc bs post σ (pc + 1) ls (.long x.toInt64 :: rest)) : GC Cx l M d bc bs post σ pc ls (.int x :: rest) := by
  intro p e R s m args below meth c D aC A k0 n0 X hCx H locs cells slots lsA hH hS h1 h2 h3 h4 hl
  exact lv_i2l X.1 X.2.1 hd rfl (k p e R s m args below meth c D aC A k0 n0 X hCx H locs cells slots lsA hH hS h1 h2 h3 h4 hl)
theorem gk_lshl {x : Int64} {y : Int32} (hd : decode M.2.1 pc = .ok (.lshl, 1)) (k : GC Cx l M d bc bs post σ (pc + 1) ls (.long (gShl x y) :: rest)) : GC Cx l M d bc bs post σ pc ls (.int y :: .long x :: rest) := by
  intro p e R s m args below meth c D aC A k0 n0 X hCx H locs cells slots lsA hH hS h1 h2 h3 h4 hl
  exact lv_lshl X.1 X.2.1 hd rfl (k p e R s m args below meth c D aC A k0 n0 X hCx H locs cells slots lsA hH hS h1 h2 h3 h4 hl)
theorem gk_ldc2 {idx : Nat} {v : Int64} (hd : decode M.2.1 pc = .ok (.ldc2_w idx, 3)) (hc : Cond.constantLong M.1.cls idx v ∈ lw_g) (k : GC Cx l M d bc bs post σ (pc + 3) ls (.long v :: rest)) : GC Cx l M d bc bs post σ pc ls (rest) := by
  intro p e R s m args below meth c D aC A k0 n0 X hCx H locs cells slots lsA hH hS h1 h2 h3 h4 hl
  exact lv_ldc2 X.1 X.2.1 X.2.2.2.1 (X.2.2.2.2.1 _ hc) hd (k p e R s m args below meth c D aC A k0 n0 X hCx H locs cells slots lsA hH hS h1 h2 h3 h4 hl)
theorem gk_land {x y : Int64} (hd : decode M.2.1 pc = .ok (.land, 1)) (k : GC Cx l M d bc bs post σ (pc + 1) ls (.long (x &&& y) :: rest)) : GC Cx l M d bc bs post σ pc ls (.long y :: .long x :: rest) := by
  intro p e R s m args below meth c D aC A k0 n0 X hCx H locs cells slots lsA hH hS h1 h2 h3 h4 hl
  exact lv_land X.1 X.2.1 hd (k p e R s m args below meth c D aC A k0 n0 X hCx H locs cells slots lsA hH hS h1 h2 h3 h4 hl)
theorem gk_lor {x y : Int64} (hd : decode M.2.1 pc = .ok (.lor, 1)) (k : GC Cx l M d bc bs post σ (pc + 1) ls (.long (x ||| y) :: rest)) : GC Cx l M d bc bs post σ pc ls (.long y :: .long x :: rest) := by
  intro p e R s m args below meth c D aC A k0 n0 X hCx H locs cells slots lsA hH hS h1 h2 h3 h4 hl
  exact lv_lor X.1 X.2.1 hd (k p e R s m args below meth c D aC A k0 n0 X hCx H locs cells slots lsA hH hS h1 h2 h3 h4 hl)
theorem gk_lcmp {x y : Int64} (hd : decode M.2.1 pc = .ok (.lcmp, 1)) (k : GC Cx l M d bc bs post σ (pc + 1) ls (.int (lg_cmp x y) :: rest)) : GC Cx l M d bc bs post σ pc ls (.long y :: .long x :: rest) := by
  intro p e R s m args below meth c D aC A k0 n0 X hCx H locs cells slots lsA hH hS h1 h2 h3 h4 hl
  exact W.lcmp X.1 X.2.1 hd (k p e R s m args below meth c D aC A k0 n0 X hCx H locs cells slots lsA hH hS h1 h2 h3 h4 hl)
theorem gk_icmp_gt {x y : Int32} {off : Int} {tgt : Nat} (hd : decode M.2.1 pc = .ok (.if_icmp .gt off, 3)) (ht : (pc : Int) + off = (tgt : Int)) (kt : y < x → GC Cx l M d bc bs post σ tgt ls rest) (kf : ¬ y < x → GC Cx l M d bc bs post σ (pc + 3) ls rest) : GC Cx l M d bc bs post σ pc ls (.int y :: .int x :: rest) := by
  intro p e R s m args below meth c D aC A k0 n0 X hCx H locs cells slots lsA hH hS h1 h2 h3 h4 hl
  exact lv_icmp_gt X.1 X.2.1 hd ht (fun q => kt q p e R s m args below meth c D aC A k0 n0 X hCx H locs cells slots lsA hH hS h1 h2 h3 h4 hl) (fun q => kf q p e R s m args below meth c D aC A k0 n0 X hCx H locs cells slots lsA hH hS h1 h2 h3 h4 hl)
theorem gk_icmp_eq {x y : Int32} {off : Int} {tgt : Nat} (hd : decode M.2.1 pc = .ok (.if_icmp .eq off, 3)) (ht : (pc : Int) + off = (tgt : Int)) (kt : x = y → GC Cx l M d bc bs post σ tgt ls rest) (kf : ¬ x = y → GC Cx l M d bc bs post σ (pc + 3) ls rest) : GC Cx l M d bc bs post σ pc ls (.int y :: .int x :: rest) := by
  intro p e R s m args below meth c D aC A k0 n0 X hCx H locs cells slots lsA hH hS h1 h2 h3 h4 hl
  exact lv_icmp_eq X.1 X.2.1 hd ht (fun q => kt q p e R s m args below meth c D aC A k0 n0 X hCx H locs cells slots lsA hH hS h1 h2 h3 h4 hl) (fun q => kf q p e R s m args below meth c D aC A k0 n0 X hCx H locs cells slots lsA hH hS h1 h2 h3 h4 hl)
theorem gk_if_eq {x : Int32} {off : Int} {tgt : Nat} (hd : decode M.2.1 pc = .ok (.ifCond .eq off, 3)) (ht : (pc : Int) + off = (tgt : Int)) (kt : x = 0 → GC Cx l M d bc bs post σ tgt ls rest) (kf : ¬ x = 0 → GC Cx l M d bc bs post σ (pc + 3) ls rest) : GC Cx l M d bc bs post σ pc ls (.int x :: rest) := by
  intro p e R s m args below meth c D aC A k0 n0 X hCx H locs cells slots lsA hH hS h1 h2 h3 h4 hl
  exact lv_if_eq X.1 X.2.1 hd ht (fun q => kt q p e R s m args below meth c D aC A k0 n0 X hCx H locs cells slots lsA hH hS h1 h2 h3 h4 hl) (fun q => kf q p e R s m args below meth c D aC A k0 n0 X hCx H locs cells slots lsA hH hS h1 h2 h3 h4 hl)
theorem gk_goto {off : Int} {tgt : Nat} (hd : decode M.2.1 pc = .ok (.goto off, 3)) (ht : (pc : Int) + off = (tgt : Int)) (k : GC Cx l M d bc bs post σ tgt ls rest) : GC Cx l M d bc bs post σ pc ls rest := by
  intro p e R s m args below meth c D aC A k0 n0 X hCx H locs cells slots lsA hH hS h1 h2 h3 h4 hl
  exact lv_goto X.1 X.2.1 hd ht (k p e R s m args below meth c D aC A k0 n0 X hCx H locs cells slots lsA hH hS h1 h2 h3 h4 hl)
theorem gk_iinc {i : Nat} {n : Int} {x v : Int32} {ls' : List (Option Value)} (hd : decode M.2.1 pc = .ok (.iinc i n, 3)) (hv : ls[i]? = some (some (.int x))) (hx : x + Int32.ofInt n = v) (hn : i < M.2.2.1) (h2 : gN2 ls i = true) (hs : ls.set i (some (.int v)) = ls') (k : GC Cx l M d bc bs post σ (pc + 3) ls' rest) : GC Cx l M d bc bs post σ pc ls rest := by
  intro p e R s m args below meth c D aC A k0 n0 X hCx H locs cells slots lsA hH hS h1 h2' h3 h4 hl
  subst hs
  obtain ⟨q, hq⟩ := List.getElem?_of_mem ((gLv_mem ls 0 i (.int x)).mpr ⟨Nat.zero_le _, by simpa using hv⟩)
  exact lv_iinc X.1 X.2.1 hd hl hq hx hn rfl (fun lsA' hl' => k p e R s m args below meth c D aC A k0 n0 X hCx H locs cells slots lsA' hH hS h1 h2' h3 h4  (gLv_set1 h2 hl'))
theorem gk_new {idx ci N : Nat} {fs : List Value} (hd : decode M.2.1 pc = .ok (.new idx, 3)) (hw : gNw M.1.cls idx ci N fs) (hbc : 1 ≤ bc) (hbs : N ≤ bs) (kk : ∀ q, σ q = none → GC Cx l M d (bc - 1) (bs - N) post (su σ q (gO ci fs)) (pc + 3) ls (.ref q :: rest)) : GC Cx l M d bc bs post σ pc ls rest := by
  intro p e R s m args below meth c D aC A k0 n0 X hCx H locs cells slots lsA hH hS h1 h2 h3 h4 hl
  obtain ⟨C, T, ty, hc, hin, hty, hcl, hinst, hini, hfs⟩ := hw
  have hts := X.2.2.2.2.1
  have hK := X.2.2.2.2.2.2.2.2.1
  have hKn := hK.1 ci _ hc
  refine W.newcK X.1 X.2.1 X.2.2.2.1 (hts _ hcl) (hts _ hinst) (hts _ hini) rfl hd (by omega) (by omega) hKn.2.1 rfl fun H1 kC hkC e1 z1 o1 => ?_
  obtain ⟨g1, g2⟩ := gHold.push (c := gO ci fs) hH hS X.2.2.2.2.2.2.2.2.2.1 ⟨_, hc, (u_born ty hts hin hKn hkC e1 hty).to hfs⟩ z1 o1
  exact kk H.size (hH.fresh (Nat.le_refl _)) p e R s m args below meth c D aC A k0 n0 X hCx H1 locs _ _ lsA g1 g2 (by omega) (by omega) h3 h4 hl
theorem gk_dup {va : Value} (hd : decode M.2.1 pc = .ok (.dup, 1)) (h : va.category = 1) (k : GC Cx l M d bc bs post σ (pc + 1) ls (va :: va :: rest)) : GC Cx l M d bc bs post σ pc ls (va :: rest) := by
  intro p e R s m args below meth c D aC A k0 n0 X hCx H locs cells slots lsA hH hS h1 h2 h3 h4 hl
  exact lv_dup X.1 X.2.1 hd h (k p e R s m args below meth c D aC A k0 n0 X hCx H locs cells slots lsA hH hS h1 h2 h3 h4 hl)
theorem gk_zret {x : Int32} (hd : decode M.2.1 pc = .ok (.ireturn, 1)) (hr : M.2.2.2 = some .boolean) (hx : narrow .boolean (.int x) = .int x) (hp : post (some (.int x)) σ) : GC Cx l M d bc bs post σ pc ls [.int x] := by
  intro p e R s m args below meth c D aC A k0 n0 X hCx H locs cells slots lsA hH hS h1 h2 h3 h4 hl
  refine W.widen (k := k0) (n := n0) (by omega) (by omega) ?_
  exact W.zret X.1 X.2.1 (X.2.2.2.2.2.1.trans hr) hx (g_ret0 (p := p) (e := e) (R := R) (m := m) (below := below) (meth := meth) (c := c) hH hS hp) hS.2.2 hd X.2.2.2.2.2.2.1
theorem gk_tableIn {dflt lo hi : Int} {offs : Array Int} {len : Nat} {x : Int32} {off : Int} {tgt : Nat} (hd : decode M.2.1 pc = .ok (.tableswitch dflt lo hi offs, len)) (q1 : ¬ x.toInt < lo) (q2 : ¬ hi < x.toInt) (ho : offs[(x.toInt - lo).toNat]? = some off) (ht : (pc : Int) + off = (tgt : Int)) (k : GC Cx l M d bc bs post σ tgt ls rest) : GC Cx l M d bc bs post σ pc ls (.int x :: rest) := by
  intro p e R s m args below meth c D aC A k0 n0 X hCx H locs cells slots lsA hH hS h1 h2 h3 h4 hl
  exact lv_tableIn X.1 X.2.1 hd q1 q2 ho ht (k p e R s m args below meth c D aC A k0 n0 X hCx H locs cells slots lsA hH hS h1 h2 h3 h4 hl)
theorem gk_tableOut {dflt lo hi : Int} {offs : Array Int} {len : Nat} {x : Int32} {tgt : Nat} (hd : decode M.2.1 pc = .ok (.tableswitch dflt lo hi offs, len)) (q : x.toInt < lo ∨ hi < x.toInt) (ht : (pc : Int) + dflt = (tgt : Int)) (k : GC Cx l M d bc bs post σ tgt ls rest) : GC Cx l M d bc bs post σ pc ls (.int x :: rest) := by
  intro p e R s m args below meth c D aC A k0 n0 X hCx H locs cells slots lsA hH hS h1 h2 h3 h4 hl
  exact lv_tableOut X.1 X.2.1 hd q ht (k p e R s m args below meth c D aC A k0 n0 X hCx H locs cells slots lsA hH hS h1 h2 h3 h4 hl)
theorem gk_tbIn {dflt lo hi : Int} {offs : Array Int} {len : Nat} {x c : Int32} {off : Int} {tgt : Nat} (hx : x = c) (hd : decode M.2.1 pc = .ok (.tableswitch dflt lo hi offs, len)) (q1 : ¬ c.toInt < lo) (q2 : ¬ hi < c.toInt) (ho : offs[(c.toInt - lo).toNat]? = some off) (ht : (pc : Int) + off = (tgt : Int)) (k : GC Cx l M d bc bs post σ tgt ls rest) : GC Cx l M d bc bs post σ pc ls (.int x :: rest) := by
  subst hx
  exact gk_tableIn hd q1 q2 ho ht k
theorem gk_tbOut {dflt lo hi : Int} {offs : Array Int} {len : Nat} {x : Int32} {tgt : Nat} (hd : decode M.2.1 pc = .ok (.tableswitch dflt lo hi offs, len)) (q : x.toInt < lo ∨ hi < x.toInt) (ht : (pc : Int) + dflt = (tgt : Int)) (k : GC Cx l M d bc bs post σ tgt ls rest) : GC Cx l M d bc bs post σ pc ls (.int x :: rest) := gk_tableOut hd q ht k
theorem gk_run {p : Program} {e : Env} {R : Room} {s : State} {m : MethodId} {args : Array Value} {below : List Frame} {meth : Method} {c : Code} {D : va_G} {aC : FieldType → ClassId} {A : Nat → Prop} {k0 n0 mc ms : Nat} {σ₁ σ₂ : gH} {H : Heap} {locs : List Loc} {cells slots : Nat} {lsA : Array Slot} {post' : Option Value → gH → Prop} {a : Array Value} {st : List Value}
    (X : gX p R s m args meth c M d D aC A) (hCx : Cx s A) (hdj : gDj σ₁ σ₂) (hH : gHold D aC (gU σ₁ σ₂) A H) (hS : va_S A s.heap H locs) (h1 : cells + bc ≤ k0) (h2 : slots + bs ≤ n0) (h3 : k0 ≤ R.cells) (h4 : n0 ≤ R.slots) (hl : lv_has lsA M.2.2.1 (gLv 0 ls)) (hmc : mc ≤ bc) (hms : ms ≤ bs)
    (hr : va_Run p l e R s m args below meth c H locs cells slots mc ms (F0 m pc lsA st) rest (gQ D aC (gA σ₁ H.size) post' a) (gA σ₁ H.size))
    (kk : ∀ v σ', post' v σ' → gDj σ' σ₂ → GC Cx l M d (bc - mc) (bs - ms) post (gU σ' σ₂) (pc + 3) ls (v.toList ++ rest)) : W p l e R s m args below meth c H locs cells slots (MQ below (gQ D aC A post) args s k0 n0 A) (F0 m pc lsA st) := by
  have hA1 : ∀ q, gA σ₁ H.size q → A q := by
    intro q hq
    rcases hq with hq | hq
    · cases e1 : σ₁ q with
      | none => exact absurd e1 hq
      | some x => exact (hH q x (by simp [gU, e1])).2
    · exact X.2.2.2.2.2.2.2.2.2.1 q (Nat.le_trans hS.1 hq)
  intro T hT Xs
  obtain ⟨v, st₀, t, T', L, h0, X', hL, e1, e2, ⟨⟨v', σ', hv, hp, hH1⟩, hz, hk⟩, st'⟩ := hr T hT Xs
  cases hv
  rw [h0] at hz hk
  rw [← e1] at hH1 hz hk
  have hS' : va_S A s.heap T'.heap (locs ++ L) := ⟨Nat.le_trans hS.1 hz, fun q g1 g2 => by rw [hk q (Nat.lt_of_lt_of_le g1 hS.1) (fun z => g2 (hA1 q z))]; exact hS.2.1 q g1 g2, fun q hq => by
    rcases List.mem_append.mp hq with h | h
    · exact hS.2.2 q h
    · exact hA1 _ (hL q h)⟩
  have hout : ∀ b x, σ₂ b = some x → σ₁ b = none ∧ va_at D gcl (b, gE aC x) H ∧ A b := by
    intro b x hb
    have h5 : σ₁ b = none := by
      cases e4 : σ₁ b with
      | none => rfl
      | some y => rw [hdj b (by rw [e4]; exact fun q => by cases q)] at hb; cases hb
    exact ⟨h5, hH b x (by simp [gU, h5, hb])⟩
  have hdj' : gDj σ' σ₂ := by
    intro b hb
    cases e3 : σ' b with
    | none => exact absurd e3 hb
    | some y =>
      cases e5 : σ₂ b with
      | none => rfl
      | some x =>
        obtain ⟨g1, g2, -⟩ := hout b x e5
        rcases (hH1 b y e3).2 with z | z
        · exact absurd g1 z
        · exact absurd g2.lt (Nat.not_lt.mpr z)
  have hH' : gHold D aC (gU σ' σ₂) A T'.heap := by
    intro b x hb
    cases e3 : σ' b with
    | some y =>
      simp only [gU, e3] at hb
      cases hb
      exact ⟨(hH1 b _ e3).1, hA1 _ (hH1 b _ e3).2⟩
    | none =>
      simp only [gU, e3] at hb
      obtain ⟨g1, g2, g3⟩ := hout b x hb
      refine ⟨g2.kept (hk b g2.lt (fun z => ?_)), g3⟩
      rcases z with z | z
      · exact z g1
      · exact absurd g2.lt (Nat.not_lt.mpr z)
  obtain ⟨t2, a1, b1⟩ := kk v σ' hp hdj' p e R s m args below meth c D aC A k0 n0 X hCx T'.heap (locs ++ L) (cells + mc) (slots + ms) lsA hH' hS' (by omega) (by omega) h3 h4 hl T' rfl X'
  exact ⟨t2, st' t2 a1, b1⟩
theorem gk_callVf {My : gM} {idx n d' mc ms b ci : Nat} {fs : List Value} {σ₁ σ₂ : gH} {post' : Option Value → gH → Prop} {st : List Value} (As : List Value) (hd : decode M.2.1 pc = .ok (.invokevirtual idx, 3)) (hk : gLk M.1.cls idx My.1) (hm : gMv My n) (hn : As.length = n) (hb : σ₁ b = some (gO ci fs)) (hc : (gcl[ci]?).map (fun q => q.1) = some My.1.cls) (hdj : gDj σ₁ σ₂) (ct : Ct l My d' mc ms (.ref b :: As) σ₁ post') (hdd : d' + 1 ≤ d) (hmc : mc ≤ bc) (hms : ms ≤ bs) (hst : st = As.reverse ++ .ref b :: rest) (hcat : (rest.map fun v => v.category).sum ≤ 8)
    (kk : ∀ v σ', post' v σ' → gDj σ' σ₂ → GC Cx l M d (bc - mc) (bs - ms) post (gU σ' σ₂) (pc + 3) ls (v.toList ++ rest)) : GC Cx l M d bc bs post (gU σ₁ σ₂) pc ls st := by
  intro p e R s m args below meth c D aC A k0 n0 X hCx H locs cells slots lsA hH hS h1 h2 h3 h4 hl
  have hts := X.2.2.2.2.1
  have hK := X.2.2.2.2.2.2.2.2.1
  obtain ⟨q, hq, hq1⟩ := Option.map_eq_some_iff.mp hc
  have hrm := g_rm (mc := mc) (ms := ms) hm.1 X.2.2.2.2.2.2.2.2.2.2.2.1 X.2.2.2.2.2.2.2.2.2.2.2.2.1 hdd
  have hH1 := hH.left
  have hpre := gPre hH1 hK X.2.2.2.2.2.2.2.2.2.1 X.2.2.2.2.2.2.2.2.2.2.1 X.2.2.2.2.2.2.2.2.2.2.2.2.2 hS (.ref b :: As)
  have hrec := va_recv hK (gP1 (hH1 b _ hb).1) hq (q0 := 0) rfl
  rw [hq1] at hrec
  have hPV : PreV s H My.1.cls b (va_Pc (.ref b :: As) (gB D aC σ₁ H.size)) As := ⟨hpre.1, hrec, hpre.2⟩
  refine gk_run (a := (Value.ref b :: As).toArray) X hCx hdj hH hS h1 h2 h3 h4 hl hmc hms ?_ kk
  rcases hk with hk | ⟨host, hk⟩
  · exact va_runV (g_fix X) (ct D aC H.size) ⟨callB_of (ws' := lw_g) n hts (gGood hm.1) rfl rfl rfl (hts _ hm.1.2.1) (hts _ hk) hm.1.2.2.1 hrm, hts _ hm.2.1, hts _ hm.2.2⟩ hPV rfl hn hl.1 hst (lv_room hcat) hd ⟨by omega, by omega⟩
  · exact va_runVN (host := host) (g_fix X) (ct D aC H.size) ⟨va_cnB (ws' := lw_g) n hts (gGood hm.1) rfl rfl rfl (hk.2 _ X.2.2.2.2.2.2.2.2.2.2.2.2.2) (hts _ hm.1.2.1) hm.1.2.2.1 hrm, hts _ hm.2.1, hts _ hm.2.2⟩ hPV rfl hn hl.1 hst (lv_room hcat) hd ⟨by omega, by omega⟩
theorem gk_callIf {My : gM} {idx n d' mc ms b : Nat} {σ₁ σ₂ : gH} {post' : Option Value → gH → Prop} {st : List Value} (As : List Value) (hd : decode M.2.1 pc = .ok (.invokespecial idx, 3)) (hk : gLk M.1.cls idx My.1) (hm : gMi My n) (hn : As.length = n) (hdj : gDj σ₁ σ₂) (ct : Ct l My d' mc ms (.ref b :: As) σ₁ post') (hdd : d' + 1 ≤ d) (hmc : mc ≤ bc) (hms : ms ≤ bs) (hst : st = As.reverse ++ .ref b :: rest) (hcat : (rest.map fun v => v.category).sum ≤ 8)
    (kk : ∀ v σ', post' v σ' → gDj σ' σ₂ → GC Cx l M d (bc - mc) (bs - ms) post (gU σ' σ₂) (pc + 3) ls (v.toList ++ rest)) : GC Cx l M d bc bs post (gU σ₁ σ₂) pc ls st := by
  intro p e R s m args below meth c D aC A k0 n0 X hCx H locs cells slots lsA hH hS h1 h2 h3 h4 hl
  have hts := X.2.2.2.2.1
  have hK := X.2.2.2.2.2.2.2.2.1
  have hrm := g_rm (mc := mc) (ms := ms) hm.1 X.2.2.2.2.2.2.2.2.2.2.2.1 X.2.2.2.2.2.2.2.2.2.2.2.2.1 hdd
  have hH1 := hH.left
  have hpre := gPre hH1 hK X.2.2.2.2.2.2.2.2.2.1 X.2.2.2.2.2.2.2.2.2.2.1 X.2.2.2.2.2.2.2.2.2.2.2.2.2 hS (.ref b :: As)
  have hw : gWs My = Cond.code My.1 My.2.1 My.2.2.1 none :: lw_g := by unfold gWs; rw [hm.2.2.2]
  refine gk_run (a := (Value.ref b :: As).toArray) X hCx hdj hH hS h1 h2 h3 h4 hl hmc hms ?_ kk
  rcases hk with hk | ⟨host, hk⟩
  · exact va_runI (g_fix X) (ct D aC H.size) ⟨callB_of (ws' := lw_g) n hts (gGood hm.1) hw rfl rfl (hts _ hm.1.2.1) (hts _ hk) hm.1.2.2.1 hrm, hm.2.2.1, hts _ hm.2.1⟩ hpre rfl hn hl.1 hst (lv_room hcat) hd ⟨by omega, by omega⟩
  · exact va_runIN (host := host) (g_fix X) (ct D aC H.size) ⟨va_cnB (ws' := lw_g) n hts (gGood hm.1) hw rfl rfl (hk.2 _ X.2.2.2.2.2.2.2.2.2.2.2.2.2) (hts _ hm.1.2.1) hm.1.2.2.1 hrm, hm.2.2.1, hts _ hm.2.1⟩ hpre rfl hn hl.1 hst (lv_room hcat) hd ⟨by omega, by omega⟩
theorem gk_bud {bc' bs' : Nat} {st : List Value} (hc : bc' ≤ bc) (hs : bs' ≤ bs) (k : GC Cx l M d bc' bs' post σ pc ls st) : GC Cx l M d bc bs post σ pc ls st := by
  intro p e R s m args below meth c D aC A k0 n0 X hCx H locs cells slots lsA hH hS h1 h2 h3 h4 hl
  exact k p e R s m args below meth c D aC A k0 n0 X hCx H locs cells slots lsA hH hS (by omega) (by omega) h3 h4 hl
def sX (b L : Nat) (xs : Nat → Int32) : State → (Nat → Prop) → Prop := fun s A => va_X b L xs s s.heap ∧ b < s.heap.size ∧ ¬ A b
theorem gk_iald {b L : Nat} {xs : Nat → Int32} {i : Int32} (hd : decode M.2.1 pc = .ok (.iaload, 1)) (_ : True) (hin : vp_in i L) (kk : GC (sX b L xs) l M d bc bs post σ (pc + 1) ls (.int (xs i.toNatClampNeg) :: rest)) : GC (sX b L xs) l M d bc bs post σ pc ls (.int i :: .ref b :: rest) := by
  intro p e R s m args below meth c D aC A k0 n0 X hCx H locs cells slots lsA hH hS h1 h2 h3 h4 hl
  exact va_sld X.1 X.2.1 hCx.1 hCx.2.1 hCx.2.2 hS hin hd (kk p e R s m args below meth c D aC A k0 n0 X hCx H locs cells slots lsA hH hS h1 h2 h3 h4 hl)
theorem gk_alen {b L : Nat} {xs : Nat → Int32} {v : Int32} (hd : decode M.2.1 pc = .ok (.arraylength, 1)) (_ : True) (_ : True) (hv : Int32.ofNat L = v) (kk : GC (sX b L xs) l M d bc bs post σ (pc + 1) ls (.int v :: rest)) : GC (sX b L xs) l M d bc bs post σ pc ls (.ref b :: rest) := by
  intro p e R s m args below meth c D aC A k0 n0 X hCx H locs cells slots lsA hH hS h1 h2 h3 h4 hl
  subst hv
  exact va_slen X.1 X.2.1 hCx.1 hCx.2.1 hCx.2.2 hS hd (kk p e R s m args below meth c D aC A k0 n0 X hCx H locs cells slots lsA hH hS h1 h2 h3 h4 hl)
end GRk
