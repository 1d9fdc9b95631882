/-! a row of rows: multianewarray of long[3][256] -/
def mO (cA : ClassId) (h : Nat) : Cell := arrV cA 3 (fun j => .ref (h + 1 + j))
theorem mO_eq (cA : ClassId) (h : Nat) : Jvm.Free.Multi.outerC cA 3 h 3 = mO cA h := by
  unfold mO arrV
  simp only [Jvm.Free.Multi.outerC, Cell.setSlot]
  congr 1
theorem mI_eq (cA : ClassId) (n : Nat) (v : Value) : Jvm.Free.Multi.innerC cA n v = arrV cA n (fun _ => v) := by
  unfold arrV Jvm.Free.Multi.innerC
  congr 1
  apply Array.ext
  · simp
  · intro i h1 h2
    simp
theorem mH_eq (H : Array Cell) (o0 o1 o2 o3 c : Cell) : ((((((H.push o0).push c).setIfInBounds H.size o1).push c).setIfInBounds H.size o2).push c).setIfInBounds H.size o3 = (((H.push o3).push c).push c).push c := by
  apply Array.ext'
  simp [List.set_append]
theorem mF_eq (T : State) (cA comp : ClassId) (n : Nat) (v : Value) : (Jvm.Free.Multi.fill T cA comp 3 n v 3).heap = (((T.heap.push (mO cA T.heap.size)).push (arrV comp n (fun _ => v))).push (arrV comp n (fun _ => v))).push (arrV comp n (fun _ => v)) := by
  rw [← mO_eq, ← mI_eq comp n v]
  exact mH_eq T.heap _ _ _ _ _
theorem sJJ : "[" ++ (FieldType.array .long).toString = "[[J" := by decide
section GMulti
variable {l : Launch} {M : gM} {d bc bs : Nat} {post : Option Value → gH → Prop} {σ : gH} {pc : Nat} {ls : List (Option Value)} {rest : List Value}
theorem g_multi {idx : Nat} (hd : decode M.2.1 pc = .ok (.multianewarray idx 2, 4)) (hcl : Cond.classLink M.1.cls idx "[[J" ∈ lw_g) (hbc : 4 ≤ bc) (hbs : 771 ≤ bs) (kk : ∀ (q : Nat), σ q = none → (su σ q (gAq (.array .long) 3 (fun k => some (q + 1 + k)))) (q + 1) = none → (su (su σ q (gAq (.array .long) 3 (fun k => some (q + 1 + k)))) (q + 1) (gAl 256 (fun _ => 0))) (q + 1 + 1) = none → (su (su (su σ q (gAq (.array .long) 3 (fun k => some (q + 1 + k)))) (q + 1) (gAl 256 (fun _ => 0))) (q + 1 + 1) (gAl 256 (fun _ => 0))) (q + 1 + 1 + 1) = none → G l M d (bc - 4) (bs - 771) post (su (su (su (su σ q (gAq (.array .long) 3 (fun k => some (q + 1 + k)))) (q + 1) (gAl 256 (fun _ => 0))) (q + 1 + 1) (gAl 256 (fun _ => 0))) (q + 1 + 1 + 1) (gAl 256 (fun _ => 0))) (pc + 4) ls (.ref q :: rest)) : G l M d bc bs post σ pc ls (.int 256 :: .int 3 :: rest) := by
  intro p e R s m args below meth c D aC A k0 n0 X H locs cells slots lsA hH hS h1 h2 h3 h4 hl
  have hts := X.2.2.2.2.1
  have hK := X.2.2.2.2.2.2.2.2.1
  have hng := X.2.2.2.2.2.2.2.2.2.2.2.2.2
  have hA := X.2.2.2.2.2.2.2.2.2.1
  have n3 : (3 : Int32).toNatClampNeg = 3 := by decide
  have n256 : (256 : Int32).toNatClampNeg = 256 := by decide
  have hl1 : (Cond.classLink M.1.cls idx ("[" ++ (FieldType.array .long).toString)).before args s = true := by rw [sJJ]; exact hts _ hcl
  have hl2 : (Cond.arrayOver (.array .long)).before args s = true := hng.2.2.2.2
  have hl3 : (Cond.arrayClass .long).before args s = true := hts _ ac_long
  have hc1 : cells + (1 + (3 : Int32).toNatClampNeg) ≤ R.cells := by rw [n3]; omega
  have hc2 : slots + ((3 : Int32).toNatClampNeg + (3 : Int32).toNatClampNeg * (256 : Int32).toNatClampNeg) ≤ R.slots := by rw [n3, n256]; omega
  have hb1 : (3 : Int32).toNatClampNeg * 4 ≤ 536870912 := by rw [n3]; decide
  have hb2 : (256 : Int32).toNatClampNeg * componentBytes .long ≤ 536870912 := by rw [n256]; decide
  have hb3 : (256 : Int32).toNatClampNeg ≤ 536870912 := by rw [n256]; decide
  have hdc : decode c.code pc = .ok (.multianewarray idx 2, 4) := by rw [X.2.1]; exact hd
  intro T hT Y
  subst hT
  obtain ⟨vm₁, cA, comp, -, f1, f2, -, -, Y', st⟩ := Jvm.Stand.multianewarray2F Y X.1 (ty := .long) X.2.2.2.1 hl1 hl2 hl3 (g := F0 m pc lsA (.int 256 :: .int 3 :: rest)) rfl hdc (n := 3) (k := 256) (rest := rest) rfl (by decide) (by decide) hb1 hb2 hb3 rfl rfl hc1 hc2
  rw [n3, n256] at Y' st
  have hheap := mF_eq (T.setVm vm₁) cA comp 256 (defaultValue .long)
  generalize Jvm.Free.Multi.fill (T.setVm vm₁) cA comp 3 256 (defaultValue .long) 3 = T' at Y' st hheap
  have ht6 : (gT aC)[6]? = some (aC (.array .long), .array .long) := rfl
  have ht1 : (gT aC)[1]? = some (aC .long, .long) := rfl
  have r1 : s.vm.findClass ("[" ++ FieldType.long.toString) = some (aC .long) := (hK.2 1 _ ht1).2
  have hco : comp = aC .long := Option.some.inj (f2.symm.trans r1)
  subst hco
  have y4 : s.vm.findClass ("[" ++ (FieldType.array .long).toString) = some (aC (.array .long)) := (hK.2 6 _ ht6).2
  have hcA : cA = aC (.array .long) := Option.some.inj (f1.symm.trans y4)
  subst hcA
  obtain ⟨g1, g2⟩ := gHold.push (H1 := T.heap.push (mO (aC (.array .long)) T.heap.size)) (c := gAq (.array .long) 3 (fun k => some (T.heap.size + 1 + k))) hH hS hA (by show (T.heap.push _)[T.heap.size]? = some (vp_cell _ _); rw [vp_cell_q, Array.getElem?_push_size]; rfl) (Array.size_push _) (fun q hq => by rw [Array.getElem?_push, if_neg (Nat.ne_of_lt hq)])
  generalize hH1 : T.heap.push (mO (aC (.array .long)) T.heap.size) = H1 at g1 g2
  have z1 : H1.size = T.heap.size + 1 := by rw [← hH1, Array.size_push]
  have fr1 := g1.fresh (Nat.le_refl _)
  obtain ⟨g3, g4⟩ := gHold.push (H1 := H1.push (arrV (aC .long) 256 (fun _ => .long 0))) (c := gAl 256 (fun _ => 0)) g1 g2 hA (by show (H1.push _)[H1.size]? = some (vp_cell _ _); rw [vp_cell_l, Array.getElem?_push_size]) (Array.size_push _) (fun q hq => by rw [Array.getElem?_push, if_neg (Nat.ne_of_lt hq)])
  generalize hH2 : H1.push (arrV (aC .long) 256 (fun _ => .long 0)) = H2 at g3 g4
  have z2 : H2.size = H1.size + 1 := by rw [← hH2, Array.size_push]
  have fr2 := g3.fresh (Nat.le_refl _)
  obtain ⟨g5, g6⟩ := gHold.push (H1 := H2.push (arrV (aC .long) 256 (fun _ => .long 0))) (c := gAl 256 (fun _ => 0)) g3 g4 hA (by show (H2.push _)[H2.size]? = some (vp_cell _ _); rw [vp_cell_l, Array.getElem?_push_size]) (Array.size_push _) (fun q hq => by rw [Array.getElem?_push, if_neg (Nat.ne_of_lt hq)])
  generalize hH3 : H2.push (arrV (aC .long) 256 (fun _ => .long 0)) = H3 at g5 g6
  have z3 : H3.size = H2.size + 1 := by rw [← hH3, Array.size_push]
  have fr3 := g5.fresh (Nat.le_refl _)
  obtain ⟨g7, g8⟩ := gHold.push (H1 := H3.push (arrV (aC .long) 256 (fun _ => .long 0))) (c := gAl 256 (fun _ => 0)) g5 g6 hA (by show (H3.push _)[H3.size]? = some (vp_cell _ _); rw [vp_cell_l, Array.getElem?_push_size]) (Array.size_push _) (fun q hq => by rw [Array.getElem?_push, if_neg (Nat.ne_of_lt hq)])
  have hheap' : T'.heap = H3.push (arrV (aC .long) 256 (fun _ => .long 0)) := by
    rw [hheap, ← hH3, ← hH2, ← hH1]
    rfl
  rw [z3, z2, z1] at g7
  rw [z3, z2, z1] at fr3
  rw [z2, z1] at fr2
  rw [z1] at fr1
  have key := kk T.heap.size (hH.fresh (Nat.le_refl _)) fr1 fr2 fr3 p e R s m args below meth c D aC A k0 n0 X (H3.push (arrV (aC .long) 256 (fun _ => .long 0))) locs (cells + 1 + 3) (slots + 3 + 3 * 256) lsA g7 g8 (by omega) (by omega) h3 h4 hl
  obtain ⟨t, a1, b1⟩ := key T' hheap' Y'
  exact ⟨t, st t a1, b1⟩
theorem arrV_cg (cA : ClassId) (n : Nat) {f f' : Nat → Value} (h : ∀ k, k < n → f k = f' k) : arrV cA n f = arrV cA n f' := by
  unfold arrV
  congr 1
  congr 1
  funext j
  exact h j.val j.isLt
/-- a row of references is what it holds below its length -/
theorem g_ext {a n : Nat} {ty : FieldType} {f f' : Nat → Option Nat} (ha : σ a = some (gAq ty n f)) (hf : ∀ k, k < n → f k = f' k) (kk : G l M d bc bs post (su σ a (gAq ty n f')) pc ls rest) : G l M d bc bs post σ pc ls rest := by
  intro p e R s m args below meth c D aC A k0 n0 X H locs cells slots lsA hH hS h1 h2 h3 h4 hl
  refine kk p e R s m args below meth c D aC A k0 n0 X H locs cells slots lsA (fun b x hb => ?_) hS h1 h2 h3 h4 hl
  by_cases e : b = a
  · subst e
    rw [su_self] at hb
    obtain rfl := Option.some.inj hb
    obtain ⟨q1, q2⟩ := hH b _ ha
    refine ⟨?_, q2⟩
    have q1' : H[b]? = some (arrV (aC ty) n (fun j => va_rf (f j))) := q1
    show H[b]? = some (arrV (aC ty) n (fun j => va_rf (f' j)))
    rw [q1', arrV_cg _ _ (fun k hk => by rw [hf k hk])]
  · rw [su_ne _ _ e] at hb
    exact hH b x hb
end GMulti
