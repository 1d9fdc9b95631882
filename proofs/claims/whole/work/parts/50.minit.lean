/-! the reference's constructor -/
/-- an object that is being made: its fields, and the cells that were made for it -/
def gI (σ : gH) (o : Nat) (fs : List Value) (cs : List (Nat × gC)) : Prop := σ o = some (gO 9 fs) ∧ (∀ p ∈ cs, σ p.1 = some p.2) ∧ (o :: cs.map Prod.fst).Nodup
theorem gI.new {σ : gH} {o q : Nat} {fs : List Value} {cs : List (Nat × gC)} {c : gC} (h : gI σ o fs cs) (hq : σ q = none) : gI (su σ q c) o fs (cs ++ [(q, c)]) := by
  have ne : ∀ a ∈ o :: cs.map Prod.fst, a ≠ q := by
    intro a ha e
    subst e
    rcases List.mem_cons.mp ha with z | z
    · subst z
      rw [h.1] at hq
      cases hq
    · obtain ⟨p, hp, rfl⟩ := List.mem_map.mp z
      rw [h.2.1 p hp] at hq
      cases hq
  refine ⟨by rw [su_ne _ _ (ne o List.mem_cons_self)]; exact h.1, fun p hp => ?_, ?_⟩
  · rcases List.mem_append.mp hp with z | z
    · rw [su_ne _ _ (ne p.1 (List.mem_cons_of_mem _ (List.mem_map.mpr ⟨p, z, rfl⟩)))]
      exact h.2.1 p z
    · rw [List.mem_singleton] at z
      subst z
      exact su_self _ _ _
  · rw [List.map_append, ← List.cons_append]
    refine List.nodup_append.mpr ⟨h.2.2, by simp, fun a ha b hb => ?_⟩
    rw [List.map_cons, List.map_nil, List.mem_singleton] at hb
    subst hb
    exact ne a ha
theorem gI.put {σ : gH} {o : Nat} {fs fs' : List Value} {cs : List (Nat × gC)} (h : gI σ o fs cs) : gI (su σ o (gO 9 fs')) o fs' cs := by
  refine ⟨su_self _ _ _, fun p hp => ?_, h.2.2⟩
  have : p.1 ≠ o := fun e => (List.nodup_cons.mp h.2.2).1 (e ▸ List.mem_map.mpr ⟨p, hp, rfl⟩)
  rw [su_ne _ _ this]
  exact h.2.1 p hp
theorem gI.upd {σ : gH} {o q : Nat} {fs : List Value} {cs : List (Nat × gC)} {c c' : gC} (h : gI σ o fs (cs ++ [(q, c)])) : gI (su σ q c') o fs (cs ++ [(q, c')]) := by
  have hn := h.2.2
  rw [List.map_append, ← List.cons_append] at hn
  have ne : ∀ a ∈ o :: cs.map Prod.fst, a ≠ q := fun a ha => (List.nodup_append.mp hn).2.2 a ha q (by simp)
  refine ⟨by rw [su_ne _ _ (ne o List.mem_cons_self)]; exact h.1, fun p hp => ?_, ?_⟩
  · rcases List.mem_append.mp hp with z | z
    · rw [su_ne _ _ (ne p.1 (List.mem_cons_of_mem _ (List.mem_map.mpr ⟨p, z, rfl⟩)))]
      exact h.2.1 p (List.mem_append_left _ z)
    · rw [List.mem_singleton] at z
      subst z
      exact su_self _ _ _
  · rw [List.map_append, ← List.cons_append]
    exact hn
theorem gI.last {σ : gH} {o q : Nat} {fs : List Value} {cs : List (Nat × gC)} {c : gC} (h : gI σ o fs (cs ++ [(q, c)])) : σ q = some c := h.2.1 (q, c) (List.mem_append_right _ List.mem_cons_self)
section GI
variable {l : Launch} {M : gM} {d bc bs : Nat} {post : Option Value → gH → Prop} {σ : gH} {pc : Nat} {ls : List (Option Value)} {rest : List Value} {o : Nat} {fs : List Value} {cs : List (Nat × gC)}
theorem gi_newi (hI : gI σ o fs cs) {n : Int32} {N : Nat} (hd : decode M.2.1 pc = .ok (.newarray .int, 2)) (hn : ¬ n < 0) (hN : n.toNatClampNeg = N) (hbytes : N * 4 ≤ 536870912) (hbc : 1 ≤ bc) (hbs : N ≤ bs) (kk : ∀ q σ', gI σ' o fs (cs ++ [(q, gAi N (fun _ => 0))]) → G l M d (bc - 1) (bs - N) post σ' (pc + 2) ls (.ref q :: rest)) : G l M d bc bs post σ pc ls (.int n :: rest) :=
  g_newi hd ac_int hn hN hbytes hbc hbs (fun q hq => kk q _ (hI.new hq))
theorem gi_newl (hI : gI σ o fs cs) {n : Int32} {N : Nat} (hd : decode M.2.1 pc = .ok (.newarray .long, 2)) (hn : ¬ n < 0) (hN : n.toNatClampNeg = N) (hbytes : N * 8 ≤ 536870912) (hbc : 1 ≤ bc) (hbs : N ≤ bs) (kk : ∀ q σ', gI σ' o fs (cs ++ [(q, gAl N (fun _ => 0))]) → G l M d (bc - 1) (bs - N) post σ' (pc + 2) ls (.ref q :: rest)) : G l M d bc bs post σ pc ls (.int n :: rest) :=
  g_newl hd ac_long hn hN hbytes hbc hbs (fun q hq => kk q _ (hI.new hq))
theorem gi_newz (hI : gI σ o fs cs) {n : Int32} {N : Nat} (hd : decode M.2.1 pc = .ok (.newarray .boolean, 2)) (hn : ¬ n < 0) (hN : n.toNatClampNeg = N) (hbytes : N * 1 ≤ 536870912) (hbc : 1 ≤ bc) (hbs : N ≤ bs) (kk : ∀ q σ', gI σ' o fs (cs ++ [(q, gAz N (fun _ => 0))]) → G l M d (bc - 1) (bs - N) post σ' (pc + 2) ls (.ref q :: rest)) : G l M d bc bs post σ pc ls (.int n :: rest) :=
  g_newz hd ac_boolean hn hN hbytes hbc hbs (fun q hq => kk q _ (hI.new hq))
theorem gi_putF (hI : gI σ o fs cs) {idx k : Nat} {fs' : List Value} {v : Value} {ty : FieldType} (hd : decode M.2.1 pc = .ok (.putfield idx, 3)) (hf : gFl M.1.cls idx 9 k) (hp : gFp 9 k ty true) (hin1 : M.1.name = "<init>") (hown : (gcl[9]?).map (fun q => q.1) = some M.1.cls) (hn : narrow ty v = v) (hfit : fits ty v = true) (hlen : k < fs.length) (hs : fs.set k v = fs') (hlk : ∃ C T N, gcl[9]? = some (C, T, N) ∧ Cond.fieldLink M.1.cls idx C (T k).2.1 (T k).2.2.1 ∈ lw_g) (kk : ∀ σ', gI σ' o fs' cs → G l M d bc bs post σ' (pc + 3) ls rest) : G l M d bc bs post σ pc ls (v :: .ref o :: rest) := g_putF hd hf hp hin1 hown hI.1 hn hfit hlen hs hlk (kk _ hI.put)
theorem gi_iast {q n : Nat} {f : Nat → Int32} (hI : gI σ o fs (cs ++ [(q, gAi n f)])) {i x : Int32} (hd : decode M.2.1 pc = .ok (.iastore, 1)) (hin : vp_in i n) (kk : ∀ σ', gI σ' o fs (cs ++ [(q, gAi n (upd f i.toNatClampNeg x))]) → G l M d bc bs post σ' (pc + 1) ls rest) : G l M d bc bs post σ pc ls (.int x :: .int i :: .ref q :: rest) := g_iast hd hI.last hin (kk _ hI.upd)
end GI
def mPr0 : Nat → Int32 := fun k => ([1, 1, 4, 4, 3, 1, 1, 1, 1, 1, 1, 1, 1] : List Int32).getD k 0
def mS0 : mS := (fun _ => 0, fun _ => 0, fun k => if k = 8 then mPr0 else fun _ => 0, fun _ _ => 0)
def mCs (a : Nat → Nat) (f8 : Nat → Int32) : List (Nat × gC) := [(a 3, gAi 60 (fun _ => 0)), (a 4, gAi 60 (fun _ => 0)), (a 5, gAi 720 (fun _ => 0)), (a 6, gAi 720 (fun _ => 0)), (a 7, gAl 720 (fun _ => 0)), (a 8, gAi 13 f8), (a 9, gAl 13 (fun _ => 0)), (a 11, gAi 50 (fun _ => 0)), (a 12, gAi 50 (fun _ => 0)), (a 13, gAi 50 (fun _ => 0)), (a 14, gAl 50 (fun _ => 0)), (a 15, gAi 58 (fun _ => 0)), (a 16, gAi 58 (fun _ => 0)), (a 17, gAl 5800 (fun _ => 0)), (a 26, gAl 8 (fun _ => 0)), (a 27, gAl 4 (fun _ => 0)), (a 29, gAi 1024 (fun _ => 0)), (a 30, gAi 256 (fun _ => 0)), (a 31, gAz 256 (fun _ => 0)), (a 32, gAi 3 (fun _ => 0)), (a 33, gAi 3 (fun _ => 0)), (a 34, gAi 3 (fun _ => 0)), (a 35, gAi 3 (fun _ => 0)), (a 36, gAi 3 (fun _ => 0)), (a 37, gAl 3 (fun _ => 0))]
theorem mCs_Mm {σ : gH} {o : Nat} {a : Nat → Nat} {f8 : Nat → Int32} (h : gI σ o (mfs a mS0) (mCs a f8)) (h8 : f8 = mPr0) : Mm σ o a mS0 := by
  subst h8
  have hget : ∀ (i : Nat) (p : Nat × gC), (mCs a mPr0)[i]? = some p → σ p.1 = some p.2 := fun i p hp => h.2.1 p (List.mem_of_getElem? hp)
  have hnd := (List.nodup_cons.mp h.2.2).2
  have hix : ∀ k, mKind k ≠ 0 → ∃ i, ((mCs a mPr0).map Prod.fst)[i]? = some (a k) ∧ ((k = 3 ∧ i = 0) ∨ (k = 4 ∧ i = 1) ∨ (k = 5 ∧ i = 2) ∨ (k = 6 ∧ i = 3) ∨ (k = 7 ∧ i = 4) ∨ (k = 8 ∧ i = 5) ∨ (k = 9 ∧ i = 6) ∨ (k = 11 ∧ i = 7) ∨ (k = 12 ∧ i = 8) ∨ (k = 13 ∧ i = 9) ∨ (k = 14 ∧ i = 10) ∨ (k = 15 ∧ i = 11) ∨ (k = 16 ∧ i = 12) ∨ (k = 17 ∧ i = 13) ∨ (k = 26 ∧ i = 14) ∨ (k = 27 ∧ i = 15) ∨ (k = 29 ∧ i = 16) ∨ (k = 30 ∧ i = 17) ∨ (k = 31 ∧ i = 18) ∨ (k = 32 ∧ i = 19) ∨ (k = 33 ∧ i = 20) ∨ (k = 34 ∧ i = 21) ∨ (k = 35 ∧ i = 22) ∨ (k = 36 ∧ i = 23) ∨ (k = 37 ∧ i = 24)) := by
    intro k hk
    have hk40 : k < 40 := by
      rcases Nat.lt_or_ge k 40 with z | z
      · exact z
      · exact absurd (by
          unfold mKind
          split <;> first | omega | rfl) hk
    revert hk
    rcases (show k = 0 ∨ k = 1 ∨ k = 2 ∨ k = 3 ∨ k = 4 ∨ k = 5 ∨ k = 6 ∨ k = 7 ∨ k = 8 ∨ k = 9 ∨ k = 10 ∨ k = 11 ∨ k = 12 ∨ k = 13 ∨ k = 14 ∨ k = 15 ∨ k = 16 ∨ k = 17 ∨ k = 18 ∨ k = 19 ∨ k = 20 ∨ k = 21 ∨ k = 22 ∨ k = 23 ∨ k = 24 ∨ k = 25 ∨ k = 26 ∨ k = 27 ∨ k = 28 ∨ k = 29 ∨ k = 30 ∨ k = 31 ∨ k = 32 ∨ k = 33 ∨ k = 34 ∨ k = 35 ∨ k = 36 ∨ k = 37 ∨ k = 38 ∨ k = 39 by omega) with rfl | rfl | rfl | rfl | rfl | rfl | rfl | rfl | rfl | rfl | rfl | rfl | rfl | rfl | rfl | rfl | rfl | rfl | rfl | rfl | rfl | rfl | rfl | rfl | rfl | rfl | rfl | rfl | rfl | rfl | rfl | rfl | rfl | rfl | rfl | rfl | rfl | rfl | rfl | rfl
    all_goals intro hk
    · exact absurd rfl hk
    · exact absurd rfl hk
    · exact absurd rfl hk
    · exact ⟨0, rfl, by simp⟩
    · exact ⟨1, rfl, by simp⟩
    · exact ⟨2, rfl, by simp⟩
    · exact ⟨3, rfl, by simp⟩
    · exact ⟨4, rfl, by simp⟩
    · exact ⟨5, rfl, by simp⟩
    · exact ⟨6, rfl, by simp⟩
    · exact absurd rfl hk
    · exact ⟨7, rfl, by simp⟩
    · exact ⟨8, rfl, by simp⟩
    · exact ⟨9, rfl, by simp⟩
    · exact ⟨10, rfl, by simp⟩
    · exact ⟨11, rfl, by simp⟩
    · exact ⟨12, rfl, by simp⟩
    · exact ⟨13, rfl, by simp⟩
    · exact absurd rfl hk
    · exact absurd rfl hk
    · exact absurd rfl hk
    · exact absurd rfl hk
    · exact absurd rfl hk
    · exact absurd rfl hk
    · exact absurd rfl hk
    · exact absurd rfl hk
    · exact ⟨14, rfl, by simp⟩
    · exact ⟨15, rfl, by simp⟩
    · exact absurd rfl hk
    · exact ⟨16, rfl, by simp⟩
    · exact ⟨17, rfl, by simp⟩
    · exact ⟨18, rfl, by simp⟩
    · exact ⟨19, rfl, by simp⟩
    · exact ⟨20, rfl, by simp⟩
    · exact ⟨21, rfl, by simp⟩
    · exact ⟨22, rfl, by simp⟩
    · exact ⟨23, rfl, by simp⟩
    · exact ⟨24, rfl, by simp⟩
    · exact absurd rfl hk
    · exact absurd rfl hk
  refine ⟨h.1, fun k hk => ?_, fun k hk => ?_, fun k hk => ?_, fun j k hj hk e => ?_⟩
  · obtain ⟨i, -, hi⟩ := hix k (by rw [hk]; decide)
    rcases hi with ⟨rfl, rfl⟩ | ⟨rfl, rfl⟩ | ⟨rfl, rfl⟩ | ⟨rfl, rfl⟩ | ⟨rfl, rfl⟩ | ⟨rfl, rfl⟩ | ⟨rfl, rfl⟩ | ⟨rfl, rfl⟩ | ⟨rfl, rfl⟩ | ⟨rfl, rfl⟩ | ⟨rfl, rfl⟩ | ⟨rfl, rfl⟩ | ⟨rfl, rfl⟩ | ⟨rfl, rfl⟩ | ⟨rfl, rfl⟩ | ⟨rfl, rfl⟩ | ⟨rfl, rfl⟩ | ⟨rfl, rfl⟩ | ⟨rfl, rfl⟩ | ⟨rfl, rfl⟩ | ⟨rfl, rfl⟩ | ⟨rfl, rfl⟩ | ⟨rfl, rfl⟩ | ⟨rfl, rfl⟩ | ⟨rfl, rfl⟩
    · exact hget 0 _ rfl
    · exact hget 1 _ rfl
    · exact hget 2 _ rfl
    · exact hget 3 _ rfl
    · cases hk
    · exact hget 5 _ rfl
    · cases hk
    · exact hget 7 _ rfl
    · exact hget 8 _ rfl
    · exact hget 9 _ rfl
    · cases hk
    · exact hget 11 _ rfl
    · exact hget 12 _ rfl
    · cases hk
    · cases hk
    · cases hk
    · exact hget 16 _ rfl
    · exact hget 17 _ rfl
    · cases hk
    · exact hget 19 _ rfl
    · exact hget 20 _ rfl
    · exact hget 21 _ rfl
    · exact hget 22 _ rfl
    · exact hget 23 _ rfl
    · cases hk
  · obtain ⟨i, -, hi⟩ := hix k (by rw [hk]; decide)
    rcases hi with ⟨rfl, rfl⟩ | ⟨rfl, rfl⟩ | ⟨rfl, rfl⟩ | ⟨rfl, rfl⟩ | ⟨rfl, rfl⟩ | ⟨rfl, rfl⟩ | ⟨rfl, rfl⟩ | ⟨rfl, rfl⟩ | ⟨rfl, rfl⟩ | ⟨rfl, rfl⟩ | ⟨rfl, rfl⟩ | ⟨rfl, rfl⟩ | ⟨rfl, rfl⟩ | ⟨rfl, rfl⟩ | ⟨rfl, rfl⟩ | ⟨rfl, rfl⟩ | ⟨rfl, rfl⟩ | ⟨rfl, rfl⟩ | ⟨rfl, rfl⟩ | ⟨rfl, rfl⟩ | ⟨rfl, rfl⟩ | ⟨rfl, rfl⟩ | ⟨rfl, rfl⟩ | ⟨rfl, rfl⟩ | ⟨rfl, rfl⟩
    · cases hk
    · cases hk
    · cases hk
    · cases hk
    · exact hget 4 _ rfl
    · cases hk
    · exact hget 6 _ rfl
    · cases hk
    · cases hk
    · cases hk
    · exact hget 10 _ rfl
    · cases hk
    · cases hk
    · exact hget 13 _ rfl
    · exact hget 14 _ rfl
    · exact hget 15 _ rfl
    · cases hk
    · cases hk
    · cases hk
    · cases hk
    · cases hk
    · cases hk
    · cases hk
    · cases hk
    · exact hget 24 _ rfl
  · obtain ⟨i, -, hi⟩ := hix k (by rw [hk]; decide)
    rcases hi with ⟨rfl, rfl⟩ | ⟨rfl, rfl⟩ | ⟨rfl, rfl⟩ | ⟨rfl, rfl⟩ | ⟨rfl, rfl⟩ | ⟨rfl, rfl⟩ | ⟨rfl, rfl⟩ | ⟨rfl, rfl⟩ | ⟨rfl, rfl⟩ | ⟨rfl, rfl⟩ | ⟨rfl, rfl⟩ | ⟨rfl, rfl⟩ | ⟨rfl, rfl⟩ | ⟨rfl, rfl⟩ | ⟨rfl, rfl⟩ | ⟨rfl, rfl⟩ | ⟨rfl, rfl⟩ | ⟨rfl, rfl⟩ | ⟨rfl, rfl⟩ | ⟨rfl, rfl⟩ | ⟨rfl, rfl⟩ | ⟨rfl, rfl⟩ | ⟨rfl, rfl⟩ | ⟨rfl, rfl⟩ | ⟨rfl, rfl⟩
    · cases hk
    · cases hk
    · cases hk
    · cases hk
    · cases hk
    · cases hk
    · cases hk
    · cases hk
    · cases hk
    · cases hk
    · cases hk
    · cases hk
    · cases hk
    · cases hk
    · cases hk
    · cases hk
    · cases hk
    · cases hk
    · exact hget 18 _ rfl
    · cases hk
    · cases hk
    · cases hk
    · cases hk
    · cases hk
    · cases hk
  · obtain ⟨i1, g1, q1⟩ := hix j hj
    obtain ⟨i2, g2, q2⟩ := hix k hk
    rw [← e] at g2
    have hl := (List.getElem?_eq_some_iff.mp g1).1
    have hii : i1 = i2 := (List.getElem?_inj hl hnd).mp (g1.trans g2.symm)
    omega
theorem gi_gen {l : Launch} {M : gM} {d bc bs : Nat} {post : Option Value → gH → Prop} {pc : Nat} {ls : List (Option Value)} {rest : List Value} {P : gH → Prop} (σ : gH) (h : ∀ σ', P σ' → G l M d bc bs post σ' pc ls rest) : P σ → G l M d bc bs post σ pc ls rest := h σ
section CMinit
variable {l : Launch} {σ : gH} {o : Nat}
set_option maxHeartbeats 8000000 in
set_option maxRecDepth 20000 in
theorem c_X11_init (h0 : σ o = some (gO 9 [.int 0, .long 0, .int 0, .null, .null, .null, .null, .null, .null, .null, .int 0, .null, .null, .null, .null, .null, .null, .null, .long 0, .int 0, .long 0, .long 0, .int 0, .int 0, .long 0, .int 0, .null, .null, .int 0, .null, .null, .null, .null, .null, .null, .null, .null, .null, .int 0, .int 0])) : Ct l mX11_init 1 25 9988 [.ref o] σ (pV fun σ' => ∃ a, Mm σ' o a mS0) := by
  have hI : gI σ o [.int 0, .long 0, .int 0, .null, .null, .null, .null, .null, .null, .null, .int 0, .null, .null, .null, .null, .null, .null, .null, .long 0, .int 0, .long 0, .long 0, .int 0, .int 0, .long 0, .int 0, .null, .null, .int 0, .null, .null, .null, .null, .null, .null, .null, .null, .null, .int 0, .int 0] [] := ⟨h0, (fun p hp => by cases hp), by simp⟩
  refine Ct_of moX11_init [some (.ref o)] rfl (Nat.le_of_ble_eq_true rfl) ?_
  refine g_aload_n (i := 0) dX11_init_0 rfl rfl ?_
  refine g_objInit dX11_init_1 lkX11_1 oi_inst oi_code (by decide) (Nat.le_of_ble_eq_true rfl) ?_
  refine g_aload_n (i := 0) dX11_init_4 rfl rfl ?_
  refine g_bipush (v := 60) dX11_init_5 (by decide) ?_
  refine gi_newi hI dX11_init_7 (by decide) rfl (by decide) (by decide) (by decide) (fun q7z σ hI => ?_)
  refine gi_putF (fs' := [_, _, _, _, _, _, _, _, _, _, _, _, _, _, _, _, _, _, _, _, _, _, _, _, _, _, _, _, _, _, _, _, _, _, _, _, _, _, _, _]) hI dX11_init_9 flX11_7 fp9_3 rfl rfl rfl rfl (Nat.le_of_ble_eq_true rfl) rfl fLX11_7 (fun σ hI => ?_)
  refine g_aload_n (i := 0) dX11_init_12 rfl rfl ?_
  refine g_bipush (v := 60) dX11_init_13 (by decide) ?_
  refine gi_newi hI dX11_init_15 (by decide) rfl (by decide) (by decide) (by decide) (fun q15z σ hI => ?_)
  refine gi_putF (fs' := [_, _, _, _, _, _, _, _, _, _, _, _, _, _, _, _, _, _, _, _, _, _, _, _, _, _, _, _, _, _, _, _, _, _, _, _, _, _, _, _]) hI dX11_init_17 flX11_13 fp9_4 rfl rfl rfl rfl (Nat.le_of_ble_eq_true rfl) rfl fLX11_13 (fun σ hI => ?_)
  refine g_aload_n (i := 0) dX11_init_20 rfl rfl ?_
  refine g_sipush (v := 720) dX11_init_21 (by decide) ?_
  refine gi_newi hI dX11_init_24 (by decide) rfl (by decide) (by decide) (by decide) (fun q24z σ hI => ?_)
  refine gi_putF (fs' := [_, _, _, _, _, _, _, _, _, _, _, _, _, _, _, _, _, _, _, _, _, _, _, _, _, _, _, _, _, _, _, _, _, _, _, _, _, _, _, _]) hI dX11_init_26 flX11_16 fp9_5 rfl rfl rfl rfl (Nat.le_of_ble_eq_true rfl) rfl fLX11_16 (fun σ hI => ?_)
  refine g_aload_n (i := 0) dX11_init_29 rfl rfl ?_
  refine g_sipush (v := 720) dX11_init_30 (by decide) ?_
  refine gi_newi hI dX11_init_33 (by decide) rfl (by decide) (by decide) (by decide) (fun q33z σ hI => ?_)
  refine gi_putF (fs' := [_, _, _, _, _, _, _, _, _, _, _, _, _, _, _, _, _, _, _, _, _, _, _, _, _, _, _, _, _, _, _, _, _, _, _, _, _, _, _, _]) hI dX11_init_35 flX11_19 fp9_6 rfl rfl rfl rfl (Nat.le_of_ble_eq_true rfl) rfl fLX11_19 (fun σ hI => ?_)
  refine g_aload_n (i := 0) dX11_init_38 rfl rfl ?_
  refine g_sipush (v := 720) dX11_init_39 (by decide) ?_
  refine gi_newl hI dX11_init_42 (by decide) rfl (by decide) (by decide) (by decide) (fun q42z σ hI => ?_)
  refine gi_putF (fs' := [_, _, _, _, _, _, _, _, _, _, _, _, _, _, _, _, _, _, _, _, _, _, _, _, _, _, _, _, _, _, _, _, _, _, _, _, _, _, _, _]) hI dX11_init_44 flX11_22 fp9_7 rfl rfl rfl rfl (Nat.le_of_ble_eq_true rfl) rfl fLX11_22 (fun σ hI => ?_)
  refine g_aload_n (i := 0) dX11_init_47 rfl rfl ?_
  refine g_bipush (v := 13) dX11_init_48 (by decide) ?_
  refine gi_newi hI dX11_init_50 (by decide) rfl (by decide) (by decide) (by decide) (fun q50z σ hI => ?_)
  refine g_dup dX11_init_52 rfl ?_
  refine g_iconst (v := 0) dX11_init_53 (by decide) ?_
  refine g_iconst (v := 1) dX11_init_54 (by decide) ?_
  refine gi_iast hI dX11_init_55 (vp_in_nI (n := _) (N := 13) (by decide) (by decide)) (fun σ hI => ?_)
  refine g_dup dX11_init_56 rfl ?_
  refine g_iconst (v := 1) dX11_init_57 (by decide) ?_
  refine g_iconst (v := 1) dX11_init_58 (by decide) ?_
  refine gi_iast hI dX11_init_59 (vp_in_nI (n := _) (N := 13) (by decide) (by decide)) (fun σ hI => ?_)
  refine g_dup dX11_init_60 rfl ?_
  refine g_iconst (v := 2) dX11_init_61 (by decide) ?_
  refine g_iconst (v := 4) dX11_init_62 (by decide) ?_
  refine gi_iast hI dX11_init_63 (vp_in_nI (n := _) (N := 13) (by decide) (by decide)) (fun σ hI => ?_)
  refine g_dup dX11_init_64 rfl ?_
  refine g_iconst (v := 3) dX11_init_65 (by decide) ?_
  refine g_iconst (v := 4) dX11_init_66 (by decide) ?_
  refine gi_iast hI dX11_init_67 (vp_in_nI (n := _) (N := 13) (by decide) (by decide)) (fun σ hI => ?_)
  refine g_dup dX11_init_68 rfl ?_
  refine g_iconst (v := 4) dX11_init_69 (by decide) ?_
  refine g_iconst (v := 3) dX11_init_70 (by decide) ?_
  refine gi_iast hI dX11_init_71 (vp_in_nI (n := _) (N := 13) (by decide) (by decide)) (fun σ hI => ?_)
  refine g_dup dX11_init_72 rfl ?_
  refine g_iconst (v := 5) dX11_init_73 (by decide) ?_
  refine g_iconst (v := 1) dX11_init_74 (by decide) ?_
  refine gi_iast hI dX11_init_75 (vp_in_nI (n := _) (N := 13) (by decide) (by decide)) (fun σ hI => ?_)
  refine g_dup dX11_init_76 rfl ?_
  refine g_bipush (v := 6) dX11_init_77 (by decide) ?_
  refine g_iconst (v := 1) dX11_init_79 (by decide) ?_
  refine gi_iast hI dX11_init_80 (vp_in_nI (n := _) (N := 13) (by decide) (by decide)) (fun σ hI => ?_)
  refine g_dup dX11_init_81 rfl ?_
  refine g_bipush (v := 7) dX11_init_82 (by decide) ?_
  refine g_iconst (v := 1) dX11_init_84 (by decide) ?_
  refine gi_iast hI dX11_init_85 (vp_in_nI (n := _) (N := 13) (by decide) (by decide)) (fun σ hI => ?_)
  refine g_dup dX11_init_86 rfl ?_
  refine g_bipush (v := 8) dX11_init_87 (by decide) ?_
  refine g_iconst (v := 1) dX11_init_89 (by decide) ?_
  refine gi_iast hI dX11_init_90 (vp_in_nI (n := _) (N := 13) (by decide) (by decide)) (fun σ hI => ?_)
  refine g_dup dX11_init_91 rfl ?_
  refine g_bipush (v := 9) dX11_init_92 (by decide) ?_
  refine g_iconst (v := 1) dX11_init_94 (by decide) ?_
  refine gi_iast hI dX11_init_95 (vp_in_nI (n := _) (N := 13) (by decide) (by decide)) (fun σ hI => ?_)
  refine g_dup dX11_init_96 rfl ?_
  refine g_bipush (v := 10) dX11_init_97 (by decide) ?_
  refine g_iconst (v := 1) dX11_init_99 (by decide) ?_
  refine gi_iast hI dX11_init_100 (vp_in_nI (n := _) (N := 13) (by decide) (by decide)) (fun σ hI => ?_)
  refine g_dup dX11_init_101 rfl ?_
  refine g_bipush (v := 11) dX11_init_102 (by decide) ?_
  refine g_iconst (v := 1) dX11_init_104 (by decide) ?_
  refine gi_iast hI dX11_init_105 (vp_in_nI (n := _) (N := 13) (by decide) (by decide)) (fun σ hI => ?_)
  refine g_dup dX11_init_106 rfl ?_
  refine g_bipush (v := 12) dX11_init_107 (by decide) ?_
  refine g_iconst (v := 1) dX11_init_109 (by decide) ?_
  refine gi_iast hI dX11_init_110 (vp_in_nI (n := _) (N := 13) (by decide) (by decide)) (fun σ hI => ?_)
  refine gi_putF (fs' := [_, _, _, _, _, _, _, _, _, _, _, _, _, _, _, _, _, _, _, _, _, _, _, _, _, _, _, _, _, _, _, _, _, _, _, _, _, _, _, _]) hI dX11_init_111 flX11_26 fp9_8 rfl rfl rfl rfl (Nat.le_of_ble_eq_true rfl) rfl fLX11_26 (fun σ hI => ?_)
  refine g_aload_n (i := 0) dX11_init_114 rfl rfl ?_
  refine g_bipush (v := 13) dX11_init_115 (by decide) ?_
  refine gi_newl hI dX11_init_117 (by decide) rfl (by decide) (by decide) (by decide) (fun q117z σ hI => ?_)
  refine gi_putF (fs' := [_, _, _, _, _, _, _, _, _, _, _, _, _, _, _, _, _, _, _, _, _, _, _, _, _, _, _, _, _, _, _, _, _, _, _, _, _, _, _, _]) hI dX11_init_119 flX11_29 fp9_9 rfl rfl rfl rfl (Nat.le_of_ble_eq_true rfl) rfl fLX11_29 (fun σ hI => ?_)
  refine g_aload_n (i := 0) dX11_init_122 rfl rfl ?_
  refine g_bipush (v := 50) dX11_init_123 (by decide) ?_
  refine gi_newi hI dX11_init_125 (by decide) rfl (by decide) (by decide) (by decide) (fun q125z σ hI => ?_)
  refine gi_putF (fs' := [_, _, _, _, _, _, _, _, _, _, _, _, _, _, _, _, _, _, _, _, _, _, _, _, _, _, _, _, _, _, _, _, _, _, _, _, _, _, _, _]) hI dX11_init_127 flX11_32 fp9_11 rfl rfl rfl rfl (Nat.le_of_ble_eq_true rfl) rfl fLX11_32 (fun σ hI => ?_)
  refine g_aload_n (i := 0) dX11_init_130 rfl rfl ?_
  refine g_bipush (v := 50) dX11_init_131 (by decide) ?_
  refine gi_newi hI dX11_init_133 (by decide) rfl (by decide) (by decide) (by decide) (fun q133z σ hI => ?_)
  refine gi_putF (fs' := [_, _, _, _, _, _, _, _, _, _, _, _, _, _, _, _, _, _, _, _, _, _, _, _, _, _, _, _, _, _, _, _, _, _, _, _, _, _, _, _]) hI dX11_init_135 flX11_35 fp9_12 rfl rfl rfl rfl (Nat.le_of_ble_eq_true rfl) rfl fLX11_35 (fun σ hI => ?_)
  refine g_aload_n (i := 0) dX11_init_138 rfl rfl ?_
  refine g_bipush (v := 50) dX11_init_139 (by decide) ?_
  refine gi_newi hI dX11_init_141 (by decide) rfl (by decide) (by decide) (by decide) (fun q141z σ hI => ?_)
  refine gi_putF (fs' := [_, _, _, _, _, _, _, _, _, _, _, _, _, _, _, _, _, _, _, _, _, _, _, _, _, _, _, _, _, _, _, _, _, _, _, _, _, _, _, _]) hI dX11_init_143 flX11_38 fp9_13 rfl rfl rfl rfl (Nat.le_of_ble_eq_true rfl) rfl fLX11_38 (fun σ hI => ?_)
  refine g_aload_n (i := 0) dX11_init_146 rfl rfl ?_
  refine g_bipush (v := 50) dX11_init_147 (by decide) ?_
  refine gi_newl hI dX11_init_149 (by decide) rfl (by decide) (by decide) (by decide) (fun q149z σ hI => ?_)
  refine gi_putF (fs' := [_, _, _, _, _, _, _, _, _, _, _, _, _, _, _, _, _, _, _, _, _, _, _, _, _, _, _, _, _, _, _, _, _, _, _, _, _, _, _, _]) hI dX11_init_151 flX11_41 fp9_14 rfl rfl rfl rfl (Nat.le_of_ble_eq_true rfl) rfl fLX11_41 (fun σ hI => ?_)
  refine g_aload_n (i := 0) dX11_init_154 rfl rfl ?_
  refine g_bipush (v := 58) dX11_init_155 (by decide) ?_
  refine gi_newi hI dX11_init_157 (by decide) rfl (by decide) (by decide) (by decide) (fun q157z σ hI => ?_)
  refine gi_putF (fs' := [_, _, _, _, _, _, _, _, _, _, _, _, _, _, _, _, _, _, _, _, _, _, _, _, _, _, _, _, _, _, _, _, _, _, _, _, _, _, _, _]) hI dX11_init_159 flX11_44 fp9_15 rfl rfl rfl rfl (Nat.le_of_ble_eq_true rfl) rfl fLX11_44 (fun σ hI => ?_)
  refine g_aload_n (i := 0) dX11_init_162 rfl rfl ?_
  refine g_bipush (v := 58) dX11_init_163 (by decide) ?_
  refine gi_newi hI dX11_init_165 (by decide) rfl (by decide) (by decide) (by decide) (fun q165z σ hI => ?_)
  refine gi_putF (fs' := [_, _, _, _, _, _, _, _, _, _, _, _, _, _, _, _, _, _, _, _, _, _, _, _, _, _, _, _, _, _, _, _, _, _, _, _, _, _, _, _]) hI dX11_init_167 flX11_47 fp9_16 rfl rfl rfl rfl (Nat.le_of_ble_eq_true rfl) rfl fLX11_47 (fun σ hI => ?_)
  refine g_aload_n (i := 0) dX11_init_170 rfl rfl ?_
  refine g_sipush (v := 5800) dX11_init_171 (by decide) ?_
  refine gi_newl hI dX11_init_174 (by decide) rfl (by decide) (by decide) (by decide) (fun q174z σ hI => ?_)
  refine gi_putF (fs' := [_, _, _, _, _, _, _, _, _, _, _, _, _, _, _, _, _, _, _, _, _, _, _, _, _, _, _, _, _, _, _, _, _, _, _, _, _, _, _, _]) hI dX11_init_176 flX11_50 fp9_17 rfl rfl rfl rfl (Nat.le_of_ble_eq_true rfl) rfl fLX11_50 (fun σ hI => ?_)
  refine g_aload_n (i := 0) dX11_init_179 rfl rfl ?_
  refine g_bipush (v := 8) dX11_init_180 (by decide) ?_
  refine gi_newl hI dX11_init_182 (by decide) rfl (by decide) (by decide) (by decide) (fun q182z σ hI => ?_)
  refine gi_putF (fs' := [_, _, _, _, _, _, _, _, _, _, _, _, _, _, _, _, _, _, _, _, _, _, _, _, _, _, _, _, _, _, _, _, _, _, _, _, _, _, _, _]) hI dX11_init_184 flX11_53 fp9_26 rfl rfl rfl rfl (Nat.le_of_ble_eq_true rfl) rfl fLX11_53 (fun σ hI => ?_)
  refine g_aload_n (i := 0) dX11_init_187 rfl rfl ?_
  refine g_iconst (v := 4) dX11_init_188 (by decide) ?_
  refine gi_newl hI dX11_init_189 (by decide) rfl (by decide) (by decide) (by decide) (fun q189z σ hI => ?_)
  refine gi_putF (fs' := [_, _, _, _, _, _, _, _, _, _, _, _, _, _, _, _, _, _, _, _, _, _, _, _, _, _, _, _, _, _, _, _, _, _, _, _, _, _, _, _]) hI dX11_init_191 flX11_56 fp9_27 rfl rfl rfl rfl (Nat.le_of_ble_eq_true rfl) rfl fLX11_56 (fun σ hI => ?_)
  refine g_aload_n (i := 0) dX11_init_194 rfl rfl ?_
  refine g_sipush (v := 1024) dX11_init_195 (by decide) ?_
  refine gi_newi hI dX11_init_198 (by decide) rfl (by decide) (by decide) (by decide) (fun q198z σ hI => ?_)
  refine gi_putF (fs' := [_, _, _, _, _, _, _, _, _, _, _, _, _, _, _, _, _, _, _, _, _, _, _, _, _, _, _, _, _, _, _, _, _, _, _, _, _, _, _, _]) hI dX11_init_200 flX11_59 fp9_29 rfl rfl rfl rfl (Nat.le_of_ble_eq_true rfl) rfl fLX11_59 (fun σ hI => ?_)
  refine g_aload_n (i := 0) dX11_init_203 rfl rfl ?_
  refine g_sipush (v := 256) dX11_init_204 (by decide) ?_
  refine gi_newi hI dX11_init_207 (by decide) rfl (by decide) (by decide) (by decide) (fun q207z σ hI => ?_)
  refine gi_putF (fs' := [_, _, _, _, _, _, _, _, _, _, _, _, _, _, _, _, _, _, _, _, _, _, _, _, _, _, _, _, _, _, _, _, _, _, _, _, _, _, _, _]) hI dX11_init_209 flX11_62 fp9_30 rfl rfl rfl rfl (Nat.le_of_ble_eq_true rfl) rfl fLX11_62 (fun σ hI => ?_)
  refine g_aload_n (i := 0) dX11_init_212 rfl rfl ?_
  refine g_sipush (v := 256) dX11_init_213 (by decide) ?_
  refine gi_newz hI dX11_init_216 (by decide) rfl (by decide) (by decide) (by decide) (fun q216z σ hI => ?_)
  refine gi_putF (fs' := [_, _, _, _, _, _, _, _, _, _, _, _, _, _, _, _, _, _, _, _, _, _, _, _, _, _, _, _, _, _, _, _, _, _, _, _, _, _, _, _]) hI dX11_init_218 flX11_65 fp9_31 rfl rfl rfl rfl (Nat.le_of_ble_eq_true rfl) rfl fLX11_65 (fun σ hI => ?_)
  refine g_aload_n (i := 0) dX11_init_221 rfl rfl ?_
  refine g_iconst (v := 3) dX11_init_222 (by decide) ?_
  refine gi_newi hI dX11_init_223 (by decide) rfl (by decide) (by decide) (by decide) (fun q223z σ hI => ?_)
  refine gi_putF (fs' := [_, _, _, _, _, _, _, _, _, _, _, _, _, _, _, _, _, _, _, _, _, _, _, _, _, _, _, _, _, _, _, _, _, _, _, _, _, _, _, _]) hI dX11_init_225 flX11_69 fp9_32 rfl rfl rfl rfl (Nat.le_of_ble_eq_true rfl) rfl fLX11_69 (fun σ hI => ?_)
  refine g_aload_n (i := 0) dX11_init_228 rfl rfl ?_
  refine g_iconst (v := 3) dX11_init_229 (by decide) ?_
  refine gi_newi hI dX11_init_230 (by decide) rfl (by decide) (by decide) (by decide) (fun q230z σ hI => ?_)
  refine gi_putF (fs' := [_, _, _, _, _, _, _, _, _, _, _, _, _, _, _, _, _, _, _, _, _, _, _, _, _, _, _, _, _, _, _, _, _, _, _, _, _, _, _, _]) hI dX11_init_232 flX11_72 fp9_33 rfl rfl rfl rfl (Nat.le_of_ble_eq_true rfl) rfl fLX11_72 (fun σ hI => ?_)
  refine g_aload_n (i := 0) dX11_init_235 rfl rfl ?_
  refine g_iconst (v := 3) dX11_init_236 (by decide) ?_
  refine gi_newi hI dX11_init_237 (by decide) rfl (by decide) (by decide) (by decide) (fun q237z σ hI => ?_)
  refine gi_putF (fs' := [_, _, _, _, _, _, _, _, _, _, _, _, _, _, _, _, _, _, _, _, _, _, _, _, _, _, _, _, _, _, _, _, _, _, _, _, _, _, _, _]) hI dX11_init_239 flX11_75 fp9_34 rfl rfl rfl rfl (Nat.le_of_ble_eq_true rfl) rfl fLX11_75 (fun σ hI => ?_)
  refine g_aload_n (i := 0) dX11_init_242 rfl rfl ?_
  refine g_iconst (v := 3) dX11_init_243 (by decide) ?_
  refine gi_newi hI dX11_init_244 (by decide) rfl (by decide) (by decide) (by decide) (fun q244z σ hI => ?_)
  refine gi_putF (fs' := [_, _, _, _, _, _, _, _, _, _, _, _, _, _, _, _, _, _, _, _, _, _, _, _, _, _, _, _, _, _, _, _, _, _, _, _, _, _, _, _]) hI dX11_init_246 flX11_78 fp9_35 rfl rfl rfl rfl (Nat.le_of_ble_eq_true rfl) rfl fLX11_78 (fun σ hI => ?_)
  refine g_aload_n (i := 0) dX11_init_249 rfl rfl ?_
  refine g_iconst (v := 3) dX11_init_250 (by decide) ?_
  refine gi_newi hI dX11_init_251 (by decide) rfl (by decide) (by decide) (by decide) (fun q251z σ hI => ?_)
  refine gi_putF (fs' := [_, _, _, _, _, _, _, _, _, _, _, _, _, _, _, _, _, _, _, _, _, _, _, _, _, _, _, _, _, _, _, _, _, _, _, _, _, _, _, _]) hI dX11_init_253 flX11_81 fp9_36 rfl rfl rfl rfl (Nat.le_of_ble_eq_true rfl) rfl fLX11_81 (fun σ hI => ?_)
  refine g_aload_n (i := 0) dX11_init_256 rfl rfl ?_
  refine g_iconst (v := 3) dX11_init_257 (by decide) ?_
  refine gi_newl hI dX11_init_258 (by decide) rfl (by decide) (by decide) (by decide) (fun q258z σ hI => ?_)
  refine gi_putF (fs' := [_, _, _, _, _, _, _, _, _, _, _, _, _, _, _, _, _, _, _, _, _, _, _, _, _, _, _, _, _, _, _, _, _, _, _, _, _, _, _, _]) hI dX11_init_260 flX11_84 fp9_37 rfl rfl rfl rfl (Nat.le_of_ble_eq_true rfl) rfl fLX11_84 (fun σ hI => ?_)
  refine g_vret dX11_init_263 rfl ?_
  refine ⟨rfl, fun k => match k with | 3 => q7z | 4 => q15z | 5 => q24z | 6 => q33z | 7 => q42z | 8 => q50z | 9 => q117z | 11 => q125z | 12 => q133z | 13 => q141z | 14 => q149z | 15 => q157z | 16 => q165z | 17 => q174z | 26 => q182z | 27 => q189z | 29 => q198z | 30 => q207z | 31 => q216z | 32 => q223z | 33 => q230z | 34 => q237z | 35 => q244z | 36 => q251z | 37 => q258z | _ => 0, mCs_Mm (f8 := _) hI ?_⟩
  funext k
  by_cases hk : k < 13
  · rcases (show k = 0 ∨ k = 1 ∨ k = 2 ∨ k = 3 ∨ k = 4 ∨ k = 5 ∨ k = 6 ∨ k = 7 ∨ k = 8 ∨ k = 9 ∨ k = 10 ∨ k = 11 ∨ k = 12 by omega) with rfl | rfl | rfl | rfl | rfl | rfl | rfl | rfl | rfl | rfl | rfl | rfl | rfl <;> rfl
  · have h13 : mPr0 k = 0 := by
      unfold mPr0
      rw [List.getD_eq_getElem?_getD, List.getElem?_eq_none (show ([1, 1, 4, 4, 3, 1, 1, 1, 1, 1, 1, 1, 1] : List Int32).length ≤ k from Nat.not_lt.mp hk)]
      rfl
    rw [h13]
    rw [pk_un (show k ≠ (12 : Int32).toNatClampNeg from fun e => hk (by rw [e]; decide))]
    rw [pk_un (show k ≠ (11 : Int32).toNatClampNeg from fun e => hk (by rw [e]; decide))]
    rw [pk_un (show k ≠ (10 : Int32).toNatClampNeg from fun e => hk (by rw [e]; decide))]
    rw [pk_un (show k ≠ (9 : Int32).toNatClampNeg from fun e => hk (by rw [e]; decide))]
    rw [pk_un (show k ≠ (8 : Int32).toNatClampNeg from fun e => hk (by rw [e]; decide))]
    rw [pk_un (show k ≠ (7 : Int32).toNatClampNeg from fun e => hk (by rw [e]; decide))]
    rw [pk_un (show k ≠ (6 : Int32).toNatClampNeg from fun e => hk (by rw [e]; decide))]
    rw [pk_un (show k ≠ (5 : Int32).toNatClampNeg from fun e => hk (by rw [e]; decide))]
    rw [pk_un (show k ≠ (4 : Int32).toNatClampNeg from fun e => hk (by rw [e]; decide))]
    rw [pk_un (show k ≠ (3 : Int32).toNatClampNeg from fun e => hk (by rw [e]; decide))]
    rw [pk_un (show k ≠ (2 : Int32).toNatClampNeg from fun e => hk (by rw [e]; decide))]
    rw [pk_un (show k ≠ (1 : Int32).toNatClampNeg from fun e => hk (by rw [e]; decide))]
    rw [pk_un (show k ≠ (0 : Int32).toNatClampNeg from fun e => hk (by rw [e]; decide))]
end CMinit
