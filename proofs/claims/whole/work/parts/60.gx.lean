/-! more rules of G: references on the stack, rows of rows, arraycopy, the class's static tables -/
section GX
variable {l : Launch} {M : gM} {d bc bs : Nat} {post : Option Value → gH → Prop} {σ : gH} {pc : Nat} {ls : List (Option Value)} {rest : List Value}
theorem g_tor {r : Option Nat} (b : Nat) (e : r = some b) (k : G l M d bc bs post σ pc ls (.ref b :: rest)) : G l M d bc bs post σ pc ls (va_rf r :: rest) := by
  rw [e]; exact k
theorem g_toN {r : Option Nat} (e : r = none) (k : G l M d bc bs post σ pc ls (.null :: rest)) : G l M d bc bs post σ pc ls (va_rf r :: rest) := by
  rw [e]; exact k
theorem g_aaldA {a n : Nat} {f : Nat → Option Nat} {i : Int32} (hd : decode M.2.1 pc = .ok (.aaload, 1)) (ha : σ a = some (gAq (.array .long) n f)) (hin : vp_in i n) (kk : G l M d bc bs post σ (pc + 1) ls (va_rf (f i.toNatClampNeg) :: rest)) : G l M d bc bs post σ pc ls (.int i :: .ref a :: rest) := by
  intro p e R s m args below meth c D aC A k0 n0 X H locs cells slots lsA hH hS h1 h2 h3 h4 hl
  have hK := X.2.2.2.2.2.2.2.2.1
  have hlt : i.toNatClampNeg < n := Nat.not_le.mp fun q => hin (Or.inr q)
  have ht : (gT aC)[6]? = some (aC (.array .long), .array .long) := rfl
  exact W.aald (v := va_rf (f i.toNatClampNeg)) (ty := .array .long) X.1 X.2.1 (hH a _ ha).1 ((hK.2 6 _ ht).1 n (fun j => va_rf (f j))) rfl (fun q => by cases q) (by show ¬ (i < 0 ∨ (arrV _ _ _).slots.size ≤ _); rw [arrV_size]; exact hin) (by show (arrV _ _ _).slots[_]? = _; rw [arrV_read _ _ hlt]) rfl rfl hd (kk p e R s m args below meth c D aC A k0 n0 X H locs cells slots lsA hH hS h1 h2 h3 h4 hl)
end GX
/-- arraycopy into an int array of ours, from a cell that is known by what it holds -/
theorem w_copy {p : Program} {l : Launch} {e : Env} {R : Room} {s : State} {m : MethodId} {args : Array Value} {below : List Frame} {meth : Method} {c : Code} {H : Heap} {locs : List Loc} {cells slots : Nat} {Q : State → Prop} {cc : ByteArray} {pc : Nat} {ls : Array Slot} {rest : List Value} {A : Nat → Prop} {a : Nat}
    (hexec : p.tables.exec = Jvm.exec) (hb : c.code = cc) (hml : c.maxLocals = ls.size) {own : String} {index : Nat} (hown : s.vm.findClass own = some m.cls) (hlink : (Cond.methodLink own index arraycopyName).before args s = true) (hnat : (Cond.native arraycopyName).before args s = true) (hstat : (Cond.static arraycopyName).before args s = true) (hini : (Cond.initialized "java/lang/System").before args s = true)
    (hS : va_S A s.heap H locs) {b0 : Nat} {scr : Cell} (hc0 : H[b0]? = some scr) (hs2 : s.isArrayOf scr .int) (hs3 : scr.vm ≠ .unknown) {f : Nat → Int32} {N : Nat} (hs4 : N ≤ scr.slots.size) (hs5 : ∀ j, j < N → scr.slots[j]? = some (.int (f j)))
    {c1 : ClassId} {g : Nat → Int32} (hc1 : H[a]? = some (vp_cell c1 (N, .inl g))) (hk : s.isArrayOf (arrV c1 N (fun j => .int (g j))) .int) (hA : A a)
    {n : Int32} (h3 : ¬ n < 0) (hN : n.toNatClampNeg = N) (hframes : 1 ≤ R.frames) (hlocals : (rest.map fun v => v.category).sum + (nativeFrameWords "java/lang/System" "arraycopy" 5 + 11) ≤ R.locals) (hdg : decode cc pc = .ok (.invokestatic index, 3))
    (kk : ∀ (H1 : Heap) (locs1 : List Loc), H1[a]? = some (vp_cell c1 (N, .inl (va_cpy f g 0 0 N))) → (∀ q, q ≠ a → H1[q]? = H[q]?) → va_S A s.heap H1 locs1 → W p l e R s m args below meth c H1 locs1 cells slots Q (F0 m (pc + 3) ls rest)) : W p l e R s m args below meth c H locs cells slots Q (F0 m pc ls (.int n :: .int 0 :: .ref a :: .int 0 :: .ref b0 :: rest)) := by
  subst hN
  have z0 : ¬ (0 : Int32) < 0 := by decide
  have t0 : (0 : Int32).toInt = 0 := by decide
  have n0 : (0 : Int32).toNatClampNeg = 0 := by decide
  have tn : n.toInt = (n.toNatClampNeg : Int) := by
    have hz0 : (0 : Int) ≤ n.toInt := by
      have := Int32.not_lt.mp h3
      simpa using Int32.le_iff_toInt_le.mp this
    show n.toInt = ((n.toInt.toNat : Nat) : Int)
    omega
  intro T hT X
  obtain ⟨hs6, k0, hk0, cm0, hkk0⟩ := hs2
  obtain ⟨-, k1, hk1, cm1, hkk1⟩ := hk
  obtain ⟨vm', X', step⟩ := X.arraycopy hexec hown hlink hnat hstat hini (src := b0) (dst := a) (cs := scr) (cd := vp_cell c1 (n.toNatClampNeg, .inl g)) (srcPos := 0) (destPos := 0) (n := n) (by rw [hT]; exact hc0) (by rw [hT]; exact hc1)
    hs6 (fun _ h => by cases h) hs3 (fun h => by cases h) hk0 hk1 hkk0 hkk1 (by simp [refKind]) z0 z0 h3
    (by rw [t0, tn]; omega)
    (by rw [t0, tn]; show ¬ _ > ((arrV c1 n.toNatClampNeg (fun j => .int (g j))).slots.size : Int); rw [arrV_size]; omega)
    (fun vm₁ _ i hi => by
      have e : scr.slots.getD ((0 : Int32).toNatClampNeg + i) .null = .int (f i) := by
        rw [n0, Nat.zero_add, Array.getD_eq_getD_getElem?, hs5 _ hi]
        rfl
      exact ⟨by rw [e]; rfl, by rw [e]; exact trivial⟩)
    (g := F0 m pc ls (.int n :: .int 0 :: .ref a :: .int 0 :: .ref b0 :: rest)) rfl (by rw [hml]) (rest := rest) rfl (by rw [hb]; exact hdg) hframes (by show 2 * 0 + _ + _ ≤ _; omega)
  have e1 : copied scr (vp_cell c1 (n.toNatClampNeg, .inl g)) 0 0 n = vp_cell c1 (n.toNatClampNeg, .inl (va_cpy f g 0 0 n.toNatClampNeg)) := va_copiedX (fun z => .int z) scr c1 f g hs5 (by rw [n0]; omega)
  rw [e1] at X' step
  have hl : a < H.size := (Array.getElem?_eq_some_iff.mp hc1).1
  have hheap : ((T.setVm vm').setCell a (vp_cell c1 (n.toNatClampNeg, .inl (va_cpy f g 0 0 n.toNatClampNeg)))).heap = H.setIfInBounds a (vp_cell c1 (n.toNatClampNeg, .inl (va_cpy f g 0 0 n.toNatClampNeg))) := by rw [← hT]; rfl
  have oq : ∀ q : Nat, q ≠ a → (H.setIfInBounds a (vp_cell c1 (n.toNatClampNeg, .inl (va_cpy f g 0 0 n.toNatClampNeg))))[q]? = H[q]? := fun q hq => by simp [Array.getElem?_setIfInBounds, Ne.symm hq]
  obtain ⟨t, a1, b1⟩ := kk _ _ (show (H.setIfInBounds a _)[a]? = some _ by simp [Array.getElem?_setIfInBounds, hl]) oq ⟨by simp; exact hS.1, fun q g1 g2 => by
      rw [oq q (fun e => g2 (by rw [e]; exact hA))]
      exact hS.2.1 q g1 g2, fun q hq => by
      rcases List.mem_append.mp hq with h | h
      · exact hS.2.2 q h
      · obtain ⟨z, -, hz⟩ := List.mem_map.mp h
        rw [← hz]
        exact hA⟩ _ hheap X'
  exact ⟨t, step t a1, b1⟩
section GX2
variable {l : Launch} {M : gM} {d bc bs : Nat} {post : Option Value → gH → Prop} {σ : gH} {pc : Nat} {ls : List (Option Value)} {rest : List Value}
theorem g_copyi {idx a0 a N : Nat} {f g : Nat → Int32} {n : Int32} (hd : decode M.2.1 pc = .ok (.invokestatic idx, 3)) (hk : Cond.methodLink M.1.cls idx arraycopyName ∈ lw_g) (ha0 : σ a0 = some (gAi N f)) (ha : σ a = some (gAi N g)) (hn : ¬ n < 0) (hN : n.toNatClampNeg = N) (hd1 : 1 ≤ d) (hcat : (rest.map fun v => v.category).sum ≤ 8) (kk : G l M d bc bs post (su σ a (gAi N (va_cpy f g 0 0 N))) (pc + 3) ls rest) : G l M d bc bs post σ pc ls (.int n :: .int 0 :: .ref a :: .int 0 :: .ref a0 :: rest) := by
  intro p e R s m args below meth c D aC A k0 n0 X H locs cells slots lsA hH hS h1 h2 h3 h4 hl
  have hts := X.2.2.2.2.1
  have hK := X.2.2.2.2.2.2.2.2.1
  have hfr := X.2.2.2.2.2.2.2.2.2.2.2.1
  have hlo := X.2.2.2.2.2.2.2.2.2.2.2.2.1
  have hnf : nativeFrameWords "java/lang/System" "arraycopy" 5 ≤ 40 := by decide +kernel
  refine w_copy X.1 X.2.1 (X.2.2.1.trans hl.1.symm) X.2.2.2.1 (hts _ hk) (hts _ ay_native) (hts _ ay_static) (hts _ ay_init) hS (hH a0 _ ha0).1 ((hK.2 0 _ rfl).1 N (fun j => .int (f j))) (fun q => by cases q) (f := f) (N := N) (by show N ≤ (arrV _ _ _).slots.size; rw [arrV_size]; exact Nat.le_refl _) (fun j hj => by show (arrV _ _ _).slots[_]? = _; rw [arrV_read _ _ hj]) (hH a _ ha).1 ((hK.2 0 _ rfl).1 N (fun j => .int (g j))) (hH a _ ha).2 hn hN (by omega) (by omega) hd fun H1 locs1 e1 oq hS1 => ?_
  exact kk p e R s m args below meth c D aC A k0 n0 X H1 locs1 cells slots lsA (hH.set (hH a _ ha).2 e1 oq) hS1 h1 h2 h3 h4 hl
end GX2
def tkF (h : Nat) : Int32 := ([1, 1, 2, 3, 4, 5, 2, 2, 3, 2] : List Int32).getD h 0
def fpF (h : Nat) : Int32 := ([1, 1, 4, 4, 3, 1, 1, 1, 1, 1, 1, 1, 1] : List Int32).getD h 0
section GX3
variable {l : Launch} {d bc bs : Nat} {post : Option Value → gH → Prop} {σ : gH} {ls : List (Option Value)} {rest : List Value}
theorem g_taken {h : Nat} (hh : h < 10) (hl2 : ls[2]? = some (some (.int (nI h)))) (k : G l mX10_use d bc bs post σ 85 ls (.int (tkF h) :: rest)) : G l mX10_use d bc bs post σ 80 ls rest := by
  intro p e R s m args below meth c D aC A k0 n0 X H locs cells slots lsA hH hS h1 h2 h3 h4 hl
  have hts := X.2.2.2.2.1
  obtain ⟨t1, t2, -, z2, y2⟩ := X.2.2.2.2.2.2.2.2.2.2.1
  refine va_gets X.1 X.2.1 z2 hS X.2.2.2.1 (hts _ fsX10_228) (fun x h => h) dX10_use_80 ?_
  refine lv_iload_n (i := 2) X.1 X.2.1 dX10_use_83 rfl (gLv_at hl hl2) ?_
  refine va_ti X.1 X.2.1 y2 hS (vp_in_nI hh (by decide)) (v := .int (tkF h)) (by rw [nI_clamp (by omega)]; rfl) dX10_use_84 ?_
  exact k p e R s m args below meth c D aC A k0 n0 X H locs cells slots lsA hH hS h1 h2 h3 h4 hl
theorem g_firstp {x pa : Nat} {fs : List Value} {g : Nat → Int32} (hl0 : ls[0]? = some (some (.ref x))) (hx : σ x = some (gO 8 fs)) (hf : fs[2]? = some (.ref pa)) (ha : σ pa = some (gAi 13 g)) (hd1 : 1 ≤ d) (k : G l mX10_init d bc bs post (su σ pa (gAi 13 (va_cpy fpF g 0 0 13))) 96 ls []) : G l mX10_init d bc bs post σ 82 ls [] := by
  intro p e R s m args below meth c D aC A k0 n0 X H locs cells slots lsA hH hS h1 h2 h3 h4 hl
  have hts := X.2.2.2.2.1
  have hK := X.2.2.2.2.2.2.2.2.1
  have hfr := X.2.2.2.2.2.2.2.2.2.2.2.1
  have hlo := X.2.2.2.2.2.2.2.2.2.2.2.2.1
  have hnf : nativeFrameWords "java/lang/System" "arraycopy" 5 ≤ 40 := by decide +kernel
  obtain ⟨t1, t2, ⟨z1, y1⟩, -⟩ := X.2.2.2.2.2.2.2.2.2.2.1
  refine va_gets X.1 X.2.1 z1 hS X.2.2.2.1 (hts _ fsX10_53) (fun x h => h) dX10_init_82 ?_
  refine lv_iconst (v := 0) X.1 X.2.1 dX10_init_85 (by decide) ?_
  refine lv_aload_n (i := 0) X.1 X.2.1 dX10_init_86 rfl (gLv_at hl hl0) ?_
  obtain ⟨C, T, N, ty0, hc, hkk, hin, -, -, hT, hlk⟩ := flX10_15
  have hP := gP1 (hH x _ hx).1
  have hget : W p l e R s m args below meth c H locs cells slots (MQ below (gQ D aC A post) args s k0 n0 A) (F0 m 90 lsA [.ref pa, .int 0, .ref t1]) → W p l e R s m args below meth c H locs cells slots (MQ below (gQ D aC A post) args s k0 n0 A) (F0 m 87 lsA [.ref x, .int 0, .ref t1]) := by
    intro kk
    rcases hlk with hlk | ⟨host, hlk⟩
    · exact va_get X.1 X.2.1 hts hin X.2.2.2.1 hK hP 0 (fs := fs) rfl hc 2 hkk (hts _ hlk) (fun x h => by rw [hT] at h; exact h) hf dX10_init_87 kk
    · exact va_getN X.1 X.2.1 hts hin X.2.2.2.1 hK hP 0 (fs := fs) rfl hc 2 hkk (va_Nw.use hlk.1 (hlk.2 _ X.2.2.2.2.2.2.2.2.2.2.2.2.2)) (fun x h => by rw [hT] at h; exact h) hf dX10_init_87 kk
  refine hget ?_
  refine lv_iconst (v := 0) X.1 X.2.1 dX10_init_90 (by decide) ?_
  refine lv_bipush (v := 13) X.1 X.2.1 dX10_init_91 (by decide) ?_
  obtain ⟨scr, g1, g2, g3, g4, g5, g6, g7⟩ := y1
  have hlt : t1 < s.heap.size := (Array.getElem?_eq_some_iff.mp g1).1
  refine w_copy X.1 X.2.1 (X.2.2.1.trans hl.1.symm) X.2.2.2.1 (hts _ lkX10_56) (hts _ ay_native) (hts _ ay_static) (hts _ ay_init) hS (by rw [hS.2.1 t1 hlt g7]; exact g1) g2 g3 (f := fpF) (N := 13) g4 (fun j hj => g6 j hj) (hH pa _ ha).1 ((hK.2 0 _ rfl).1 13 (fun j => .int (g j))) (hH pa _ ha).2 (by decide) (by decide) (by omega) (by show 0 + _ ≤ _; omega) dX10_init_93 fun H1 locs1 e1 oq hS1 => ?_
  exact k p e R s m args below meth c D aC A k0 n0 X H1 locs1 cells slots lsA (hH.set (hH pa _ ha).2 e1 oq) hS1 h1 h2 h3 h4 hl
end GX3
