/-! G: fields, arrays, making, calls -/
theorem gHold.set {D : va_G} {aC : FieldType → ClassId} {σ : gH} {A : Nat → Prop} {H H1 : Heap} {a : Nat} {c : gC} (h : gHold D aC σ A H) (ha : A a) (h1 : va_at D gcl (a, gE aC c) H1) (ho : ∀ q, q ≠ a → H1[q]? = H[q]?) : gHold D aC (su σ a c) A H1 := by
  intro b x hb
  by_cases e : b = a
  · subst e
    rw [su_self] at hb
    cases hb
    exact ⟨h1, ha⟩
  · rw [su_ne _ _ e] at hb
    exact ⟨(h b x hb).1.kept (ho b e), (h b x hb).2⟩
theorem gP1 {D : va_G} {a : Nat} {x : va_E} {H : Heap} (h : va_at D gcl (a, x) H) : va_P D gcl [(a, x)] H := by
  intro k q hk
  match k, hk with
  | 0, hk => cases hk; exact h
  | k + 1, hk => simp at hk
theorem gHold.fresh {D : va_G} {aC : FieldType → ClassId} {σ : gH} {A : Nat → Prop} {H : Heap} (h : gHold D aC σ A H) {q : Nat} (hq : H.size ≤ q) : σ q = none := by
  cases e : σ q with
  | none => rfl
  | some c =>
    have := (h q c e).1.lt
    exact absurd this (Nat.not_lt.mpr hq)
def gFl (own : String) (idx ci k : Nat) : Prop := ∃ (C : String) (T : u_T) (N : Nat) (ty0 : Nat → FieldType), gcl[ci]? = some (C, T, N) ∧ k < N ∧ (∀ w ∈ u_ws C T N, w ∈ lw_g) ∧ (∀ k, k < N → parseFieldDescriptor (T k).2.2.1 = some (ty0 k)) ∧ (∀ a, a < N → ∀ b, b < N → a ≠ b → (T a).2.1 ≠ (T b).2.1) ∧ (T k).1 = C ∧ ((Cond.fieldLink own idx C (T k).2.1 (T k).2.2.1 ∈ lw_g) ∨ ∃ host, gNk (Cond.fieldLinkNest own idx C (T k).2.1 (T k).2.2.1 host))
def gFp (ci k : Nat) (ty : FieldType) (fin : Bool) : Prop := ∃ (C : String) (T : u_T) (N : Nat), gcl[ci]? = some (C, T, N) ∧ (T k).2.2.2 = fin ∧ parseFieldDescriptor (T k).2.2.1 = some ty
def gNw (own : String) (idx ci N : Nat) (fs : List Value) : Prop := ∃ (C : String) (T : u_T) (ty : Nat → FieldType), gcl[ci]? = some (C, T, N) ∧ (∀ w ∈ u_ws C T N, w ∈ lw_g) ∧ (∀ k, k < N → parseFieldDescriptor (T k).2.2.1 = some (ty k)) ∧ Cond.classLink own idx C ∈ lw_g ∧ Cond.instantiable C N ∈ lw_g ∧ Cond.initialized C ∈ lw_g ∧ (∀ j, j < N → defaultValue (ty j) = vp_V fs j)
section GH
variable {l : Launch} {M : gM} {d bc bs : Nat} {post : Option Value → gH → Prop} {σ : gH} {pc : Nat} {ls : List (Option Value)} {rest : List Value}
theorem g_getf {idx ci k a : Nat} {fs : List Value} {v : Value} (hd : decode M.2.1 pc = .ok (.getfield idx, 3)) (hf : gFl M.1.cls idx ci k) (ha : σ a = some (.inr (ci, fs))) (hv : fs[k]? = some v) (kk : G l M d bc bs post σ (pc + 3) ls (v :: rest)) : G l M d bc bs post σ pc ls (.ref a :: rest) := by
  intro p e R s m args below meth c D aC A k0 n0 X H locs cells slots lsA hH hS h1 h2 h3 h4 hl
  obtain ⟨C, T, N, ty0, hc, hk, hin, -, -, hT, hlk⟩ := hf
  have hts := X.2.2.2.2.1
  have hK := X.2.2.2.2.2.2.2.2.1
  have hP := gP1 (hH a _ ha).1
  rcases hlk with hlk | ⟨host, hlk⟩
  · exact va_get X.1 X.2.1 hts hin X.2.2.2.1 hK hP 0 (fs := fs) rfl hc k hk (hts _ hlk) (fun x h => by rw [hT] at h; exact h) hv hd (kk p e R s m args below meth c D aC A k0 n0 X H locs cells slots lsA hH hS h1 h2 h3 h4 hl)
  · exact va_getN X.1 X.2.1 hts hin X.2.2.2.1 hK hP 0 (fs := fs) rfl hc k hk (va_Nw.use hlk.1 (hlk.2 _ X.2.2.2.2.2.2.2.2.2.2.2.2.2)) (fun x h => by rw [hT] at h; exact h) hv hd (kk p e R s m args below meth c D aC A k0 n0 X H locs cells slots lsA hH hS h1 h2 h3 h4 hl)
theorem g_putf {idx ci k a : Nat} {fs fs' : List Value} {v : Value} {ty : FieldType} (hd : decode M.2.1 pc = .ok (.putfield idx, 3)) (hf : gFl M.1.cls idx ci k) (hp : gFp ci k ty false) (ha : σ a = some (.inr (ci, fs))) (hn : narrow ty v = v) (hfit : fits ty v = true) (hlen : k < fs.length) (hs : fs.set k v = fs') (kk : G l M d bc bs post (su σ a (.inr (ci, fs'))) (pc + 3) ls rest) : G l M d bc bs post σ pc ls (v :: .ref a :: rest) := by
  intro p e R s m args below meth c D aC A k0 n0 X H locs cells slots lsA hH hS h1 h2 h3 h4 hl
  subst hs
  obtain ⟨C, T, N, ty0, hc, hk, hin, hty, hnm, hT, hlk⟩ := hf
  obtain ⟨C', T', N', hc', hfin, hdd⟩ := hp
  cases hc.symm.trans hc'
  have hts := X.2.2.2.2.1
  have hK := X.2.2.2.2.2.2.2.2.1
  have hap := va_apart (own := M.1.cls) hts hin ty0 hty hnm hK hc
  obtain ⟨r, g1, cell, q1, q2, q3, q4⟩ := (hH a _ ha).1
  have hr : r = (C, T, N) := Option.some.inj (g1.symm.trans hc)
  subst hr
  obtain ⟨hSl, hfc, kC, hkC, hkind⟩ := hK.1 ci _ hc
  obtain ⟨cf, kf, fi, f, hi, hsl⟩ := hSl k hk
  have hlay := hts _ (hin _ (u_in_lay hk))
  unfold u_lay at hlay
  rw [if_neg (by rw [hfin]; decide)] at hlay
  have hst := (u_facts hfc hkC (u_lays hts hin hk) hi).1
  have h6 := u_store hfc hkC hkind hlay hi hdd hn hfit
  have fin : ∀ H' : Heap, H'[a]? = some (cell.setSlot f.slot v) → H'.size = H.size → (∀ q, q ≠ a → H'[q]? = H[q]?) → W p l e R s m args below meth c H' (locs ++ [⟨a, f.slot⟩]) cells slots (MQ below (gQ D aC A post) args s k0 n0 A) (F0 m (pc + 3) lsA rest) := by
    intro H' e1 e2 e3
    rw [hsl] at e1 ⊢
    exact kk p e R s m args below meth c D aC A k0 n0 X H' _ cells slots lsA (hH.set (hH a _ ha).2 ⟨_, hc, t_OB.to (V := updV (vp_V fs) k v) ⟨_, e1, q2, q3, t_set q4 hap hk v⟩ (fun j _ => vp_updV_set hlen v j)⟩ e3) (hS.put e2 e3 (hH a _ ha).2) h1 h2 h3 h4 hl
  rcases hlk with hlk | ⟨host, hlk⟩
  · exact W.putK X.1 X.2.1 (f := f) ⟨X.2.2.2.1, hts _ hlk, ⟨_, _, _, by rw [hT] at hi; exact hi⟩, hst⟩ (by rw [q2]; exact h6) q1 q3 (by rw [hsl]; exact k2_hasslot (q4 k hk)) rfl rfl hd fin
  · exact va_WputK X.1 X.2.1 (f := f) X.2.2.2.1 (va_Nw.use hlk.1 (hlk.2 _ X.2.2.2.2.2.2.2.2.2.2.2.2.2)) (by rw [hT] at hi; exact hi) hst (by rw [q2]; exact h6) q1 q3 (by rw [hsl]; exact k2_hasslot (q4 k hk)) rfl rfl hd fin
theorem g_putF {idx ci k a : Nat} {fs fs' : List Value} {v : Value} {ty : FieldType} (hd : decode M.2.1 pc = .ok (.putfield idx, 3)) (hf : gFl M.1.cls idx ci k) (hp : gFp ci k ty true) (hin1 : M.1.name = "<init>") (hown : (gcl[ci]?).map (fun q => q.1) = some M.1.cls) (ha : σ a = some (.inr (ci, fs))) (hn : narrow ty v = v) (hfit : fits ty v = true) (hlen : k < fs.length) (hs : fs.set k v = fs') (hlk : ∃ C T N, gcl[ci]? = some (C, T, N) ∧ Cond.fieldLink M.1.cls idx C (T k).2.1 (T k).2.2.1 ∈ lw_g) (kk : G l M d bc bs post (su σ a (.inr (ci, fs'))) (pc + 3) ls rest) : G l M d bc bs post σ pc ls (v :: .ref a :: rest) := by
  intro p e R s m args below meth c D aC A k0 n0 X H locs cells slots lsA hH hS h1 h2 h3 h4 hl
  subst hs
  obtain ⟨C, T, N, ty0, hc, hk, hin, hty, hnm, hT, -⟩ := hf
  obtain ⟨C', T', N', hc', hfin, hdd⟩ := hp
  cases hc.symm.trans hc'
  obtain ⟨C', T', N', hc', hlk⟩ := hlk
  cases hc.symm.trans hc'
  have hown' : C = M.1.cls := by rw [hc] at hown; exact Option.some.inj hown
  have hts := X.2.2.2.2.1
  have hK := X.2.2.2.2.2.2.2.2.1
  have hap := va_apart (own := M.1.cls) hts hin ty0 hty hnm hK hc
  obtain ⟨r, g1, cell, q1, q2, q3, q4⟩ := (hH a _ ha).1
  have hr : r = (C, T, N) := Option.some.inj (g1.symm.trans hc)
  subst hr
  obtain ⟨hSl, hfc, kC, hkC, hkind⟩ := hK.1 ci _ hc
  obtain ⟨cf, kf, fi, f, hi, hsl⟩ := hSl k hk
  have hlay := hts _ (hin _ (u_in_lay hk))
  unfold u_lay at hlay
  rw [if_pos hfin] at hlay
  have hst := (u_facts hfc hkC (u_lays hts hin hk) hi).1
  have hcf : m.cls = cf := by
    obtain ⟨_, _, c', _, _, _, -, -, hf', -, -, -, hown2, -⟩ := Cond.laysFinal_spec hlay
    have e1 : c' = cf := by have := hi.symm.trans hf'; simp at this; exact this.1.symm
    rw [hT, hown'] at hown2
    rw [← e1]; exact Option.some.inj (X.2.2.2.1.symm.trans hown2)
  have h6 := u_fits hfc hkC hkind (Or.inr hlay) hi hdd hn hfit
  have hi2 : s.fieldFound? C (T k).2.1 (T k).2.2.1 = some (cf, kf, fi, f) := by rw [hT] at hi; exact hi
  refine W.putFinK X.1 X.2.1 X.2.2.2.1 (hts _ hlk) hi2 hst hcf (X.2.2.2.2.2.2.2.1.trans hin1) (by rw [q2]; exact h6) q1 q3 (by rw [hsl]; exact k2_hasslot (q4 k hk)) rfl rfl hd fun H' e1 e2 e3 => ?_
  rw [hsl] at e1 ⊢
  exact kk p e R s m args below meth c D aC A k0 n0 X H' _ cells slots lsA (hH.set (hH a _ ha).2 ⟨_, hc, t_OB.to (V := updV (vp_V fs) k v) ⟨_, e1, q2, q3, t_set q4 hap hk v⟩ (fun j _ => vp_updV_set hlen v j)⟩ e3) (hS.put e2 e3 (hH a _ ha).2) h1 h2 h3 h4 hl
theorem g_iald {a n : Nat} {f : Nat → Int32} {i : Int32} (hd : decode M.2.1 pc = .ok (.iaload, 1)) (ha : σ a = some (gAi n f)) (hin : vp_in i n) (kk : G l M d bc bs post σ (pc + 1) ls (.int (f i.toNatClampNeg) :: rest)) : G l M d bc bs post σ pc ls (.int i :: .ref a :: rest) := by
  intro p e R s m args below meth c D aC A k0 n0 X H locs cells slots lsA hH hS h1 h2 h3 h4 hl
  exact va_iald X.1 X.2.1 X.2.2.2.2.2.2.2.2.1 (gP1 (hH a _ ha).1) 0 0 (f := f) rfl rfl hin hd (kk p e R s m args below meth c D aC A k0 n0 X H locs cells slots lsA hH hS h1 h2 h3 h4 hl)
theorem g_zald {a n : Nat} {f : Nat → Int32} {i : Int32} (hd : decode M.2.1 pc = .ok (.baload, 1)) (ha : σ a = some (gAz n f)) (hin : vp_in i n) (kk : G l M d bc bs post σ (pc + 1) ls (.int (f i.toNatClampNeg) :: rest)) : G l M d bc bs post σ pc ls (.int i :: .ref a :: rest) := by
  intro p e R s m args below meth c D aC A k0 n0 X H locs cells slots lsA hH hS h1 h2 h3 h4 hl
  exact va_zald X.1 X.2.1 X.2.2.2.2.2.2.2.2.1 (gP1 (hH a _ ha).1) 0 2 (f := f) rfl rfl hin hd (kk p e R s m args below meth c D aC A k0 n0 X H locs cells slots lsA hH hS h1 h2 h3 h4 hl)
theorem g_lald {a n : Nat} {f : Nat → Int64} {i : Int32} (hd : decode M.2.1 pc = .ok (.laload, 1)) (ha : σ a = some (gAl n f)) (hin : vp_in i n) (kk : G l M d bc bs post σ (pc + 1) ls (.long (f i.toNatClampNeg) :: rest)) : G l M d bc bs post σ pc ls (.int i :: .ref a :: rest) := by
  intro p e R s m args below meth c D aC A k0 n0 X H locs cells slots lsA hH hS h1 h2 h3 h4 hl
  exact va_lald X.1 X.2.1 X.2.2.2.2.2.2.2.2.1 (gP1 (hH a _ ha).1) 0 1 (f := f) rfl rfl hin hd (kk p e R s m args below meth c D aC A k0 n0 X H locs cells slots lsA hH hS h1 h2 h3 h4 hl)
theorem g_alen {a : Nat} {ty : FieldType} {x : vp_A} {v : Int32} (hd : decode M.2.1 pc = .ok (.arraylength, 1)) (ha : σ a = some (.inl (ty, x))) (hty : ty ∈ gTy) (hv : Int32.ofNat x.1 = v) (kk : G l M d bc bs post σ (pc + 1) ls (.int v :: rest)) : G l M d bc bs post σ pc ls (.ref a :: rest) := by
  intro p e R s m args below meth c D aC A k0 n0 X H locs cells slots lsA hH hS h1 h2 h3 h4 hl
  obtain ⟨t, ht⟩ := List.getElem?_of_mem hty
  exact va_alen X.1 X.2.1 X.2.2.2.2.2.2.2.2.1 (gP1 (hH a _ ha).1) 0 t rfl (ty := ty) (by unfold gT; rw [List.getElem?_map, ht]; rfl) hv hd (kk p e R s m args below meth c D aC A k0 n0 X H locs cells slots lsA hH hS h1 h2 h3 h4 hl)
theorem g_aald {a n : Nat} {C : String} {f : Nat → Option Nat} {i : Int32} (hd : decode M.2.1 pc = .ok (.aaload, 1)) (ha : σ a = some (gAq (.object C) n f)) (hty : FieldType.object C ∈ gTy) (hin : vp_in i n) (kk : G l M d bc bs post σ (pc + 1) ls (va_rf (f i.toNatClampNeg) :: rest)) : G l M d bc bs post σ pc ls (.int i :: .ref a :: rest) := by
  intro p e R s m args below meth c D aC A k0 n0 X H locs cells slots lsA hH hS h1 h2 h3 h4 hl
  obtain ⟨t, ht⟩ := List.getElem?_of_mem hty
  exact va_aldq X.1 X.2.1 X.2.2.2.2.2.2.2.2.1 (gP1 (hH a _ ha).1) 0 t (C := C) (f := f) rfl (by unfold gT; rw [List.getElem?_map, ht]; rfl) hin hd (kk p e R s m args below meth c D aC A k0 n0 X H locs cells slots lsA hH hS h1 h2 h3 h4 hl)
theorem g_iast {a n : Nat} {f : Nat → Int32} {i x : Int32} (hd : decode M.2.1 pc = .ok (.iastore, 1)) (ha : σ a = some (gAi n f)) (hin : vp_in i n) (kk : G l M d bc bs post (su σ a (gAi n (upd f i.toNatClampNeg x))) (pc + 1) ls rest) : G l M d bc bs post σ pc ls (.int x :: .int i :: .ref a :: rest) := by
  intro p e R s m args below meth c D aC A k0 n0 X H locs cells slots lsA hH hS h1 h2 h3 h4 hl
  have hK := X.2.2.2.2.2.2.2.2.1
  refine W.iast X.1 X.2.1 (hH a _ ha).1 ((hK.2 0 _ rfl).1 n (fun j => .int (f j))) (fun q => by cases q) (by show ¬ (i < 0 ∨ (arrV _ _ _).slots.size ≤ _); rw [arrV_size]; exact hin) rfl rfl hd fun H1 e1 z oq => ?_
  refine kk p e R s m args below meth c D aC A k0 n0 X H1 _ cells slots lsA (hH.set (hH a _ ha).2 ?_ oq) (hS.put z oq (hH a _ ha).2) h1 h2 h3 h4 hl
  show H1[a]? = some (vp_cell _ _)
  rw [e1, vp_cell_i, vp_cell_i, arrV_store]
  congr 2
  funext q
  by_cases hq : q = i.toNatClampNeg
  · subst hq; simp [updV, upd]
  · simp [updV, upd, hq]
theorem g_zast {a n : Nat} {f : Nat → Int32} {i x : Int32} (hd : decode M.2.1 pc = .ok (.bastore, 1)) (ha : σ a = some (gAz n f)) (hin : vp_in i n) (kk : G l M d bc bs post (su σ a (gAz n (upd f i.toNatClampNeg (vp_nar .boolean x)))) (pc + 1) ls rest) : G l M d bc bs post σ pc ls (.int x :: .int i :: .ref a :: rest) := by
  intro p e R s m args below meth c D aC A k0 n0 X H locs cells slots lsA hH hS h1 h2 h3 h4 hl
  have hK := X.2.2.2.2.2.2.2.2.1
  refine W.zast X.1 X.2.1 (hH a _ ha).1 ((hK.2 2 _ rfl).1 n (fun j => .int (f j))) (fun q => by cases q) (by show ¬ (i < 0 ∨ (arrV _ _ _).slots.size ≤ _); rw [arrV_size]; exact hin) rfl rfl hd fun H1 e1 z oq => ?_
  refine kk p e R s m args below meth c D aC A k0 n0 X H1 _ cells slots lsA (hH.set (hH a _ ha).2 ?_ oq) (hS.put z oq (hH a _ ha).2) h1 h2 h3 h4 hl
  show H1[a]? = some (vp_cell _ _)
  rw [e1, vp_cell_i, vp_cell_i, arrV_store]
  congr 2
  funext q
  by_cases hq : q = i.toNatClampNeg
  · subst hq
    simp [updV, upd, vp_nar]
    try rfl
  · simp [updV, upd, hq]
theorem g_last {a n : Nat} {f : Nat → Int64} {i : Int32} {x : Int64} (hd : decode M.2.1 pc = .ok (.lastore, 1)) (ha : σ a = some (gAl n f)) (hin : vp_in i n) (kk : G l M d bc bs post (su σ a (gAl n (vp_updL f i.toNatClampNeg x))) (pc + 1) ls rest) : G l M d bc bs post σ pc ls (.long x :: .int i :: .ref a :: rest) := by
  intro p e R s m args below meth c D aC A k0 n0 X H locs cells slots lsA hH hS h1 h2 h3 h4 hl
  have hK := X.2.2.2.2.2.2.2.2.1
  refine W.last X.1 X.2.1 (hH a _ ha).1 ((hK.2 1 _ rfl).1 n (fun j => .long (f j))) (fun q => by cases q) (by show ¬ (i < 0 ∨ (arrV _ _ _).slots.size ≤ _); rw [arrV_size]; exact hin) rfl rfl hd fun H1 e1 z oq => ?_
  refine kk p e R s m args below meth c D aC A k0 n0 X H1 _ cells slots lsA (hH.set (hH a _ ha).2 ?_ oq) (hS.put z oq (hH a _ ha).2) h1 h2 h3 h4 hl
  show H1[a]? = some (vp_cell _ _)
  rw [e1, vp_cell_l, vp_cell_l, arrV_store]
  congr 2
  funext q
  by_cases hq : q = i.toNatClampNeg
  · subst hq; simp [updV, vp_updL]
  · simp [updV, vp_updL, hq]
theorem g_aast {a n ci b : Nat} {C : String} {T : u_T} {N : Nat} {vs : List Value} {f : Nat → Option Nat} {i : Int32} (hd : decode M.2.1 pc = .ok (.aastore, 1)) (ha : σ a = some (gAq (.object C) n f)) (hty : FieldType.object C ∈ gTy) (hb : σ b = some (gO ci vs)) (hc : gcl[ci]? = some (C, T, N)) (hin : vp_in i n) (kk : G l M d bc bs post (su σ a (gAq (.object C) n (va_up f i.toNatClampNeg (some b)))) (pc + 1) ls rest) : G l M d bc bs post σ pc ls (.ref b :: .int i :: .ref a :: rest) := by
  intro p e R s m args below meth c D aC A k0 n0 X H locs cells slots lsA hH hS h1 h2 h3 h4 hl
  have hK := X.2.2.2.2.2.2.2.2.1
  obtain ⟨t0, ht⟩ := List.getElem?_of_mem hty
  have ht' : (gT aC)[t0]? = some (aC (.object C), .object C) := by unfold gT; rw [List.getElem?_map, ht]; rfl
  have hlt : i.toNatClampNeg < n := Nat.not_le.mp fun q => hin (Or.inr q)
  have h0 : ¬ i < 0 := fun q => hin (Or.inl q)
  obtain ⟨r', hr', cellV, g1, g2, g3, -⟩ := (hH b _ hb).1
  have hcls := (hK.1 ci _ hc).2
  obtain ⟨kA, comp, k1, k2, k3, -⟩ := (hK.2 t0 _ ht').2
  have hcomp : comp = D.1 ci := Option.some.inj (k3.symm.trans hcls.1)
  subst hcomp
  obtain ⟨kC, hkC, -⟩ := hcls.2
  refine W.aast X.1 X.2.1 (hH a _ ha).1 (fun q h => by cases h) (fun h => by cases h) k1 k2 rfl hkC ⟨h0, by show _ < (arrV _ _ _).slots.size; rw [arrV_size]; exact hlt⟩ g1 (fun q h => by rw [g3] at h; cases h) (by rw [g2]; exact hkC) (by rw [g2]; exact va_assign hcls) rfl rfl hd fun H1 e1 z oq => ?_
  refine kk p e R s m args below meth c D aC A k0 n0 X H1 _ cells slots lsA (hH.set (hH a _ ha).2 ?_ oq) (hS.put z oq (hH a _ ha).2) h1 h2 h3 h4 hl
  show H1[a]? = some (vp_cell _ _)
  rw [e1, vp_cell_q, vp_cell_q, arrV_store]
  congr 2
  funext q
  by_cases hq : q = i.toNatClampNeg
  · subst hq; simp [updV, va_up, va_rf]
  · simp [updV, va_up, hq]
theorem g_aastN {a n : Nat} {C : String} {f : Nat → Option Nat} {i : Int32} (hd : decode M.2.1 pc = .ok (.aastore, 1)) (ha : σ a = some (gAq (.object C) n f)) (hty : FieldType.object C ∈ gTy) (hin : vp_in i n) (kk : G l M d bc bs post (su σ a (gAq (.object C) n (va_up f i.toNatClampNeg none))) (pc + 1) ls rest) : G l M d bc bs post σ pc ls (.null :: .int i :: .ref a :: rest) := by
  intro p e R s m args below meth c D aC A k0 n0 X H locs cells slots lsA hH hS h1 h2 h3 h4 hl
  have hK := X.2.2.2.2.2.2.2.2.1
  obtain ⟨t0, ht⟩ := List.getElem?_of_mem hty
  have ht' : (gT aC)[t0]? = some (aC (.object C), .object C) := by unfold gT; rw [List.getElem?_map, ht]; rfl
  refine va_WaastN (C := C) X.1 X.2.1 (hH a _ ha).1 ((hK.2 t0 _ ht').1 n (fun j => va_rf (f j))) (fun h => by cases h) (by show ¬ (i < 0 ∨ (arrV _ _ _).slots.size ≤ _); rw [arrV_size]; exact hin) rfl rfl hd fun H1 e1 z oq => ?_
  refine kk p e R s m args below meth c D aC A k0 n0 X H1 _ cells slots lsA (hH.set (hH a _ ha).2 ?_ oq) (hS.put z oq (hH a _ ha).2) h1 h2 h3 h4 hl
  show H1[a]? = some (vp_cell _ _)
  rw [e1, vp_cell_q, vp_cell_q, arrV_store]
  congr 2
  funext q
  by_cases hq : q = i.toNatClampNeg
  · subst hq; simp [updV, va_up, va_rf]
  · simp [updV, va_up, hq]
theorem gHold.push {D : va_G} {aC : FieldType → ClassId} {A : Nat → Prop} {H H1 : Heap} {c : gC} {locs : List Loc} {H0 : Heap} (hH : gHold D aC σ A H) (hS : va_S A H0 H locs) (hA : ∀ q, H0.size ≤ q → A q) (h1 : va_at D gcl (H.size, gE aC c) H1) (z1 : H1.size = H.size + 1) (o1 : ∀ q, q < H.size → H1[q]? = H[q]?) : gHold D aC (su σ H.size c) A H1 ∧ va_S A H0 H1 locs := by
  refine ⟨fun b x hb => ?_, Nat.le_trans hS.1 (by omega), fun x g1 g2 => (o1 x (Nat.lt_of_lt_of_le g1 hS.1)).trans (hS.2.1 x g1 g2), hS.2.2⟩
  by_cases e : b = H.size
  · subst e
    rw [su_self] at hb
    cases hb
    exact ⟨h1, hA _ hS.1⟩
  · rw [su_ne _ _ e] at hb
    exact ⟨(hH b x hb).1.kept (o1 b (hH b x hb).1.lt), (hH b x hb).2⟩
theorem g_new {idx ci N : Nat} {fs : List Value} (hd : decode M.2.1 pc = .ok (.new idx, 3)) (hw : gNw M.1.cls idx ci N fs) (hbc : 1 ≤ bc) (hbs : N ≤ bs) (kk : ∀ q, σ q = none → G l M d (bc - 1) (bs - N) post (su σ q (gO ci fs)) (pc + 3) ls (.ref q :: rest)) : G l M d bc bs post σ pc ls rest := by
  intro p e R s m args below meth c D aC A k0 n0 X H locs cells slots lsA hH hS h1 h2 h3 h4 hl
  obtain ⟨C, T, ty, hc, hin, hty, hcl, hinst, hini, hfs⟩ := hw
  have hts := X.2.2.2.2.1
  have hK := X.2.2.2.2.2.2.2.2.1
  have hKn := hK.1 ci _ hc
  refine W.newcK X.1 X.2.1 X.2.2.2.1 (hts _ hcl) (hts _ hinst) (hts _ hini) rfl hd (by omega) (by omega) hKn.2.1 rfl fun H1 kC hkC e1 z1 o1 => ?_
  obtain ⟨g1, g2⟩ := gHold.push (c := gO ci fs) hH hS X.2.2.2.2.2.2.2.2.2.1 ⟨_, hc, (u_born ty hts hin hKn hkC e1 hty).to hfs⟩ z1 o1
  exact kk H.size (hH.fresh (Nat.le_refl _)) p e R s m args below meth c D aC A k0 n0 X H1 locs _ _ lsA g1 g2 (by omega) (by omega) h3 h4 hl
theorem g_newa {at0 : ArrayType} {ty : FieldType} {n : Int32} {N : Nat} {a0 : vp_A} (t0 : Nat) (hd : decode M.2.1 pc = .ok (.newarray at0, 2)) (hty : newarray.typeOf at0 = ty) (ht : gTy[t0]? = some ty) (hra : ∀ (U : State) (cA : ClassId), va_RA U cA ty → U.vm.findClass ("[" ++ ty.toString) = some cA) (harr : Cond.arrayClass ty ∈ lw_g) (ha : ∀ cA : ClassId, vp_cell cA a0 = arrV cA N (fun _ => defaultValue ty)) (hn : ¬ n < 0) (hN : n.toNatClampNeg = N) (hbytes : N * componentBytes ty ≤ 536870912) (hbc : 1 ≤ bc) (hbs : N ≤ bs)
    (kk : ∀ q, σ q = none → G l M d (bc - 1) (bs - N) post (su σ q (.inl (ty, a0))) (pc + 2) ls (.ref q :: rest)) : G l M d bc bs post σ pc ls (.int n :: rest) := by
  intro p e R s m args below meth c D aC A k0 n0 X H locs cells slots lsA hH hS h1 h2 h3 h4 hl
  subst hty
  have hts := X.2.2.2.2.1
  have hK := X.2.2.2.2.2.2.2.2.1
  refine va_newaK X.1 X.2.1 (hts _ harr) rfl hd rfl hn hN hbytes (by omega) (by omega) rfl fun H1 cA e1 z1 o1 hAr hNm => ?_
  have ht' : (gT aC)[t0]? = some (aC (newarray.typeOf at0), newarray.typeOf at0) := by unfold gT; rw [List.getElem?_map, ht]; rfl
  have hcA : cA = aC (newarray.typeOf at0) := Option.some.inj (hNm.symm.trans (hra _ _ (hK.2 t0 _ ht').2))
  subst hcA
  obtain ⟨g1, g2⟩ := gHold.push (c := .inl (newarray.typeOf at0, a0)) hH hS X.2.2.2.2.2.2.2.2.2.1 (by show H1[H.size]? = some (vp_cell _ _); rw [ha]; exact e1) z1 o1
  exact kk H.size (hH.fresh (Nat.le_refl _)) p e R s m args below meth c D aC A k0 n0 X H1 locs _ _ lsA g1 g2 (by omega) (by omega) h3 h4 hl
theorem g_newi {n : Int32} {N : Nat} (hd : decode M.2.1 pc = .ok (.newarray .int, 2)) (harr : Cond.arrayClass .int ∈ lw_g) (hn : ¬ n < 0) (hN : n.toNatClampNeg = N) (hbytes : N * 4 ≤ 536870912) (hbc : 1 ≤ bc) (hbs : N ≤ bs) (kk : ∀ q, σ q = none → G l M d (bc - 1) (bs - N) post (su σ q (gAi N (fun _ => 0))) (pc + 2) ls (.ref q :: rest)) : G l M d bc bs post σ pc ls (.int n :: rest) :=
  g_newa 0 hd rfl rfl (fun _ _ h => h) harr (fun _ => rfl) hn hN hbytes hbc hbs kk
theorem g_newl {n : Int32} {N : Nat} (hd : decode M.2.1 pc = .ok (.newarray .long, 2)) (harr : Cond.arrayClass .long ∈ lw_g) (hn : ¬ n < 0) (hN : n.toNatClampNeg = N) (hbytes : N * 8 ≤ 536870912) (hbc : 1 ≤ bc) (hbs : N ≤ bs) (kk : ∀ q, σ q = none → G l M d (bc - 1) (bs - N) post (su σ q (gAl N (fun _ => 0))) (pc + 2) ls (.ref q :: rest)) : G l M d bc bs post σ pc ls (.int n :: rest) :=
  g_newa 1 hd rfl rfl (fun _ _ h => h) harr (fun _ => rfl) hn hN hbytes hbc hbs kk
theorem g_newz {n : Int32} {N : Nat} (hd : decode M.2.1 pc = .ok (.newarray .boolean, 2)) (harr : Cond.arrayClass .boolean ∈ lw_g) (hn : ¬ n < 0) (hN : n.toNatClampNeg = N) (hbytes : N * 1 ≤ 536870912) (hbc : 1 ≤ bc) (hbs : N ≤ bs) (kk : ∀ q, σ q = none → G l M d (bc - 1) (bs - N) post (su σ q (gAz N (fun _ => 0))) (pc + 2) ls (.ref q :: rest)) : G l M d bc bs post σ pc ls (.int n :: rest) :=
  g_newa 2 hd rfl rfl (fun _ _ h => h) harr (fun _ => rfl) hn hN hbytes hbc hbs kk
theorem g_newq {idx : Nat} {C : String} {n : Int32} {N : Nat} (hd : decode M.2.1 pc = .ok (.anewarray idx, 3)) (hcl : Cond.classLink M.1.cls idx C ∈ lw_g) (hov : ∀ U : State, gNg U → va_AO C U) (hty : FieldType.object C ∈ gTy) (hn : ¬ n < 0) (hN : n.toNatClampNeg = N) (hbytes : N * 4 ≤ 536870912) (hbc : 1 ≤ bc) (hbs : N ≤ bs) (kk : ∀ q, σ q = none → G l M d (bc - 1) (bs - N) post (su σ q (gAq (.object C) N (fun _ => none))) (pc + 3) ls (.ref q :: rest)) : G l M d bc bs post σ pc ls (.int n :: rest) := by
  intro p e R s m args below meth c D aC A k0 n0 X H locs cells slots lsA hH hS h1 h2 h3 h4 hl
  subst hN
  have hts := X.2.2.2.2.1
  have hK := X.2.2.2.2.2.2.2.2.1
  obtain ⟨t0, ht⟩ := List.getElem?_of_mem hty
  have ht' : (gT aC)[t0]? = some (aC (.object C), .object C) := by unfold gT; rw [List.getElem?_map, ht]; rfl
  refine W.anew X.1 X.2.1 X.2.2.2.1 (hts _ hcl) (va_AO.use (hov _ X.2.2.2.2.2.2.2.2.2.2.2.2.2)) rfl hd rfl hn hbytes (by omega) (by omega) fun cA kA comp f1 f2 f3 f4 => ?_
  obtain ⟨kA', comp', y1, y2, y3, y4⟩ := (hK.2 t0 _ ht').2
  have hcA : cA = aC (.object C) := Option.some.inj (f1.symm.trans y4)
  subst hcA
  generalize hH1 : H.push ({ cls := aC (.object C), slots := Array.replicate n.toNatClampNeg .null, vm := .none } : Cell) = H1
  have z1 : H1.size = H.size + 1 := by rw [← hH1, Array.size_push]
  have e1 : H1[H.size]? = some (arrV (aC (.object C)) n.toNatClampNeg (fun _ => .null)) := by rw [← hH1, Array.getElem?_push_size, ← arrV_new]
  have o1 : ∀ q : Nat, q < H.size → H1[q]? = H[q]? := fun q hq => by rw [← hH1, Array.getElem?_push, if_neg (Nat.ne_of_lt hq)]
  obtain ⟨g1, g2⟩ := gHold.push (c := gAq (.object C) n.toNatClampNeg (fun _ => none)) hH hS X.2.2.2.2.2.2.2.2.2.1 (by show H1[H.size]? = some (vp_cell _ _); rw [vp_cell_q]; exact e1) z1 o1
  exact kk H.size (hH.fresh (Nat.le_refl _)) p e R s m args below meth c D aC A k0 n0 X H1 locs _ _ lsA g1 g2 (by omega) (by omega) h3 h4 hl
theorem g_objInit {idx a : Nat} (hd : decode M.2.1 pc = .ok (.invokespecial idx, 3)) (hlk : Cond.methodLink M.1.cls idx Lib.objectInit ∈ lw_g) (hin : Cond.instanceMethod Lib.objectInit ∈ lw_g) (hco : Cond.code Lib.objectInit ⟨#[0xb1]⟩ 1 none ∈ lw_g) (hd1 : 1 ≤ d) (hcat : (rest.map fun v => v.category).sum ≤ 8) (kk : G l M d bc bs post σ (pc + 3) ls rest) : G l M d bc bs post σ pc ls (.ref a :: rest) := by
  intro p e R s m args below meth c D aC A k0 n0 X H locs cells slots lsA hH hS h1 h2 h3 h4 hl
  have hts := X.2.2.2.2.1
  have hfr := X.2.2.2.2.2.2.2.2.2.2.2.1
  have hlo := X.2.2.2.2.2.2.2.2.2.2.2.2.1
  refine W.objInit X.1 X.2.1 X.2.2.2.1 (hts _ hlk) (hts _ hin) (hts _ hco) rfl (hl.1.trans X.2.2.1.symm) rfl hd (by omega) ?_ (kk p e R s m args below meth c D aC A k0 n0 X H locs cells slots lsA hH hS h1 h2 h3 h4 hl)
  have := lv_room (m := m) (pc := pc) (ls := lsA) (rest := .ref a :: rest) hcat
  omega
end GH
