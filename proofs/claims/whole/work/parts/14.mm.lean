/-! the reference's state: its int fields, long fields, int arrays (the booleans among them), long arrays, each by the number of its field -/
abbrev mS : Type := (Nat → Int32) × (Nat → Int64) × (Nat → Nat → Int32) × (Nat → Nat → Int64)
def ui (S : mS) (k : Nat) (v : Int32) : mS := (va_up S.1 k v, S.2)
def ul (S : mS) (k : Nat) (v : Int64) : mS := (S.1, va_up S.2.1 k v, S.2.2)
def uI (S : mS) (k : Nat) (f : Nat → Int32) : mS := (S.1, S.2.1, va_up S.2.2.1 k f, S.2.2.2)
def uJ (S : mS) (k : Nat) (f : Nat → Int64) : mS := (S.1, S.2.1, S.2.2.1, va_up S.2.2.2 k f)
def mfs (ad : Nat → Nat) (S : mS) : List Value := [.int (S.1 0), .long (S.2.1 1), .int (S.1 2), .ref (ad 3), .ref (ad 4), .ref (ad 5), .ref (ad 6), .ref (ad 7), .ref (ad 8), .ref (ad 9), .int (S.1 10), .ref (ad 11), .ref (ad 12), .ref (ad 13), .ref (ad 14), .ref (ad 15), .ref (ad 16), .ref (ad 17), .long (S.2.1 18), .int (S.1 19), .long (S.2.1 20), .long (S.2.1 21), .int (S.1 22), .int (S.1 23), .long (S.2.1 24), .int (S.1 25), .ref (ad 26), .ref (ad 27), .int (S.1 28), .ref (ad 29), .ref (ad 30), .ref (ad 31), .ref (ad 32), .ref (ad 33), .ref (ad 34), .ref (ad 35), .ref (ad 36), .ref (ad 37), .int (S.1 38), .int (S.1 39)]
def mKind : Nat → Nat := fun k => match k with
  | 3 => 1
  | 4 => 1
  | 5 => 1
  | 6 => 1
  | 7 => 2
  | 8 => 1
  | 9 => 2
  | 11 => 1
  | 12 => 1
  | 13 => 1
  | 14 => 2
  | 15 => 1
  | 16 => 1
  | 17 => 2
  | 26 => 2
  | 27 => 2
  | 29 => 1
  | 30 => 1
  | 31 => 3
  | 32 => 1
  | 33 => 1
  | 34 => 1
  | 35 => 1
  | 36 => 1
  | 37 => 2
  | _ => 0
def mLen : Nat → Nat := fun k => match k with
  | 3 => 60
  | 4 => 60
  | 5 => 720
  | 6 => 720
  | 7 => 720
  | 8 => 13
  | 9 => 13
  | 11 => 50
  | 12 => 50
  | 13 => 50
  | 14 => 50
  | 15 => 58
  | 16 => 58
  | 17 => 5800
  | 26 => 8
  | 27 => 4
  | 29 => 1024
  | 30 => 256
  | 31 => 256
  | 32 => 3
  | 33 => 3
  | 34 => 3
  | 35 => 3
  | 36 => 3
  | 37 => 3
  | _ => 0
def Mm (σ : gH) (o : Nat) (ad : Nat → Nat) (S : mS) : Prop := σ o = some (gO 9 (mfs ad S)) ∧ (∀ k, mKind k = 1 → σ (ad k) = some (gAi (mLen k) (S.2.2.1 k))) ∧ (∀ k, mKind k = 2 → σ (ad k) = some (gAl (mLen k) (S.2.2.2 k))) ∧ (∀ k, mKind k = 3 → σ (ad k) = some (gAz (mLen k) (S.2.2.1 k))) ∧ (∀ j k, mKind j ≠ 0 → mKind k ≠ 0 → ad j = ad k → j = k)
theorem Mm.apart {σ : gH} {o : Nat} {ad : Nat → Nat} {S : mS} (h : Mm σ o ad S) {k : Nat} (hk : mKind k ≠ 0) : ad k ≠ o := by
  intro e
  have hle : mKind k = 1 ∨ mKind k = 2 ∨ mKind k = 3 := by
    revert hk
    unfold mKind
    split <;> simp
  rcases hle with q | q | q
  · have := h.2.1 k q
    rw [e, h.1] at this
    cases this
  · have := h.2.2.1 k q
    rw [e, h.1] at this
    cases this
  · have := h.2.2.2.1 k q
    rw [e, h.1] at this
    cases this
theorem Mm.obj {σ : gH} {o : Nat} {ad : Nat → Nat} {S S' : mS} (h : Mm σ o ad S) (h1 : S'.2.2 = S.2.2) {fs : List Value} (hf : fs = mfs ad S') : Mm (su σ o (gO 9 fs)) o ad S' := by
  subst hf
  refine ⟨su_self _ _ _, fun k hk => ?_, fun k hk => ?_, fun k hk => ?_, h.2.2.2.2⟩
  · rw [su_ne _ _ (h.apart (by rw [hk]; decide)), h1]; exact h.2.1 k hk
  · rw [su_ne _ _ (h.apart (by rw [hk]; decide)), h1]; exact h.2.2.1 k hk
  · rw [su_ne _ _ (h.apart (by rw [hk]; decide)), h1]; exact h.2.2.2.1 k hk
theorem mfs_arr (ad : Nat → Nat) (S : mS) (x : (Nat → Nat → Int32) × (Nat → Nat → Int64)) : mfs ad (S.1, S.2.1, x) = mfs ad S := rfl
theorem Mm.arI {σ : gH} {o : Nat} {ad : Nat → Nat} {S : mS} (h : Mm σ o ad S) {k : Nat} (hk : mKind k = 1) (f : Nat → Int32) : Mm (su σ (ad k) (gAi (mLen k) f)) o ad (uI S k f) := by
  have ne : ∀ j, mKind j ≠ 0 → j ≠ k → ad j ≠ ad k := fun j hj e q => e (h.2.2.2.2 j k hj (by rw [hk]; decide) q)
  refine ⟨?_, fun j hj => ?_, fun j hj => ?_, fun j hj => ?_, h.2.2.2.2⟩
  · rw [su_ne _ _ (Ne.symm (h.apart (by rw [hk]; decide)))]; exact h.1
  · by_cases e : j = k
    · subst e; rw [su_self]; simp [uI, va_up]
    · rw [su_ne _ _ (ne j (by rw [hj]; decide) e), h.2.1 j hj]; simp [uI, va_up, e]
  · rw [su_ne _ _ (ne j (by rw [hj]; decide) (fun e => by rw [e, hk] at hj; cases hj))]; exact h.2.2.1 j hj
  · have e : j ≠ k := fun e => by rw [e, hk] at hj; cases hj
    rw [su_ne _ _ (ne j (by rw [hj]; decide) e), h.2.2.2.1 j hj]; simp [uI, va_up, e]
theorem Mm.arZ {σ : gH} {o : Nat} {ad : Nat → Nat} {S : mS} (h : Mm σ o ad S) {k : Nat} (hk : mKind k = 3) (f : Nat → Int32) : Mm (su σ (ad k) (gAz (mLen k) f)) o ad (uI S k f) := by
  have ne : ∀ j, mKind j ≠ 0 → j ≠ k → ad j ≠ ad k := fun j hj e q => e (h.2.2.2.2 j k hj (by rw [hk]; decide) q)
  refine ⟨?_, fun j hj => ?_, fun j hj => ?_, fun j hj => ?_, h.2.2.2.2⟩
  · rw [su_ne _ _ (Ne.symm (h.apart (by rw [hk]; decide)))]; exact h.1
  · have e : j ≠ k := fun e => by rw [e, hk] at hj; cases hj
    rw [su_ne _ _ (ne j (by rw [hj]; decide) e), h.2.1 j hj]; simp [uI, va_up, e]
  · rw [su_ne _ _ (ne j (by rw [hj]; decide) (fun e => by rw [e, hk] at hj; cases hj))]; exact h.2.2.1 j hj
  · by_cases e : j = k
    · subst e; rw [su_self]; simp [uI, va_up]
    · rw [su_ne _ _ (ne j (by rw [hj]; decide) e), h.2.2.2.1 j hj]; simp [uI, va_up, e]
theorem Mm.arJ {σ : gH} {o : Nat} {ad : Nat → Nat} {S : mS} (h : Mm σ o ad S) {k : Nat} (hk : mKind k = 2) (f : Nat → Int64) : Mm (su σ (ad k) (gAl (mLen k) f)) o ad (uJ S k f) := by
  have ne : ∀ j, mKind j ≠ 0 → j ≠ k → ad j ≠ ad k := fun j hj e q => e (h.2.2.2.2 j k hj (by rw [hk]; decide) q)
  refine ⟨?_, fun j hj => ?_, fun j hj => ?_, fun j hj => ?_, h.2.2.2.2⟩
  · rw [su_ne _ _ (Ne.symm (h.apart (by rw [hk]; decide)))]; exact h.1
  · rw [su_ne _ _ (ne j (by rw [hj]; decide) (fun e => by rw [e, hk] at hj; cases hj))]; exact h.2.1 j hj
  · by_cases e : j = k
    · subst e; rw [su_self]; simp [uJ, va_up]
    · rw [su_ne _ _ (ne j (by rw [hj]; decide) e), h.2.2.1 j hj]; simp [uJ, va_up, e]
  · rw [su_ne _ _ (ne j (by rw [hj]; decide) (fun e => by rw [e, hk] at hj; cases hj))]; exact h.2.2.2.1 j hj
theorem mfs_i (ad : Nat → Nat) (S : mS) (v : Int32) {k : Nat} (hk : k ∈ [0, 2, 10, 19, 22, 23, 28, 38, 39]) : (mfs ad S).set k (.int v) = mfs ad (ui S k v) := by
  simp only [List.mem_cons, List.not_mem_nil, or_false] at hk
  rcases hk with rfl | rfl | rfl | rfl | rfl | rfl | rfl | rfl | rfl <;> rfl
theorem mfs_l (ad : Nat → Nat) (S : mS) (v : Int64) {k : Nat} (hk : k ∈ [1, 18, 20, 21, 24]) : (mfs ad S).set k (.long v) = mfs ad (ul S k v) := by
  simp only [List.mem_cons, List.not_mem_nil, or_false] at hk
  rcases hk with rfl | rfl | rfl | rfl | rfl <;> rfl
theorem mfs_z (ad : Nat → Nat) (S : mS) (v : Int32) {k : Nat} (hk : k ∈ [25]) : (mfs ad S).set k (.int v) = mfs ad (ui S k v) := by
  simp only [List.mem_cons, List.not_mem_nil, or_false] at hk
  subst hk; rfl
section GMM
variable {l : Launch} {M : gM} {d bc bs : Nat} {post : Option Value → gH → Prop} {σ : gH} {pc : Nat} {ls : List (Option Value)} {rest : List Value} {o : Nat} {ad : Nat → Nat} {S : mS}
theorem gm_get (hM : Mm σ o ad S) {k idx : Nat} {v : Value} (hd : decode M.2.1 pc = .ok (.getfield idx, 3)) (hf : gFl M.1.cls idx 9 k) (hv : (mfs ad S)[k]? = some v) (kk : G l M d bc bs post σ (pc + 3) ls (v :: rest)) : G l M d bc bs post σ pc ls (.ref o :: rest) := g_getf hd hf hM.1 hv kk
theorem gm_puti (hM : Mm σ o ad S) {k idx : Nat} {v : Int32} (hd : decode M.2.1 pc = .ok (.putfield idx, 3)) (hf : gFl M.1.cls idx 9 k) (hp : gFp 9 k .int false) (hk : k ∈ [0, 2, 10, 19, 22, 23, 28, 38, 39]) (kk : ∀ σ', Mm σ' o ad (ui S k v) → G l M d bc bs post σ' (pc + 3) ls rest) : G l M d bc bs post σ pc ls (.int v :: .ref o :: rest) := by
  have h40 : k < (mfs ad S).length := by
    refine Nat.lt_of_lt_of_le (m := 40) ?_ (Nat.le_of_eq rfl)
    simp only [List.mem_cons, List.not_mem_nil, or_false] at hk
    omega
  exact g_putf hd hf hp hM.1 rfl rfl h40 rfl (kk _ (hM.obj (S' := ui S k v) rfl (mfs_i ad S v hk)))
theorem gm_putl (hM : Mm σ o ad S) {k idx : Nat} {v : Int64} (hd : decode M.2.1 pc = .ok (.putfield idx, 3)) (hf : gFl M.1.cls idx 9 k) (hp : gFp 9 k .long false) (hk : k ∈ [1, 18, 20, 21, 24]) (kk : ∀ σ', Mm σ' o ad (ul S k v) → G l M d bc bs post σ' (pc + 3) ls rest) : G l M d bc bs post σ pc ls (.long v :: .ref o :: rest) := by
  have h40 : k < (mfs ad S).length := by
    refine Nat.lt_of_lt_of_le (m := 40) ?_ (Nat.le_of_eq rfl)
    simp only [List.mem_cons, List.not_mem_nil, or_false] at hk
    omega
  exact g_putf hd hf hp hM.1 rfl rfl h40 rfl (kk _ (hM.obj (S' := ul S k v) rfl (mfs_l ad S v hk)))
theorem gm_putz (hM : Mm σ o ad S) {k idx : Nat} {v : Int32} (hd : decode M.2.1 pc = .ok (.putfield idx, 3)) (hf : gFl M.1.cls idx 9 k) (hp : gFp 9 k .boolean false) (hk : k ∈ [25]) (hx : v = 0 ∨ v = 1) (kk : ∀ σ', Mm σ' o ad (ui S k v) → G l M d bc bs post σ' (pc + 3) ls rest) : G l M d bc bs post σ pc ls (.int v :: .ref o :: rest) := by
  have h40 : k < (mfs ad S).length := by
    refine Nat.lt_of_lt_of_le (m := 40) ?_ (Nat.le_of_eq rfl)
    simp only [List.mem_cons, List.not_mem_nil, or_false] at hk
    omega
  exact g_putf hd hf hp hM.1 (by rcases hx with rfl | rfl <;> rfl) (by rcases hx with rfl | rfl <;> rfl) h40 rfl (kk _ (hM.obj (S' := ui S k v) rfl (mfs_z ad S v hk)))
theorem gm_iald (hM : Mm σ o ad S) {k : Nat} {i : Int32} (hd : decode M.2.1 pc = .ok (.iaload, 1)) (hk : mKind k = 1) (hin : vp_in i (mLen k)) (kk : G l M d bc bs post σ (pc + 1) ls (.int (S.2.2.1 k i.toNatClampNeg) :: rest)) : G l M d bc bs post σ pc ls (.int i :: .ref (ad k) :: rest) := g_iald hd (hM.2.1 k hk) hin kk
theorem gm_lald (hM : Mm σ o ad S) {k : Nat} {i : Int32} (hd : decode M.2.1 pc = .ok (.laload, 1)) (hk : mKind k = 2) (hin : vp_in i (mLen k)) (kk : G l M d bc bs post σ (pc + 1) ls (.long (S.2.2.2 k i.toNatClampNeg) :: rest)) : G l M d bc bs post σ pc ls (.int i :: .ref (ad k) :: rest) := g_lald hd (hM.2.2.1 k hk) hin kk
theorem gm_zald (hM : Mm σ o ad S) {k : Nat} {i : Int32} (hd : decode M.2.1 pc = .ok (.baload, 1)) (hk : mKind k = 3) (hin : vp_in i (mLen k)) (kk : G l M d bc bs post σ (pc + 1) ls (.int (S.2.2.1 k i.toNatClampNeg) :: rest)) : G l M d bc bs post σ pc ls (.int i :: .ref (ad k) :: rest) := g_zald hd (hM.2.2.2.1 k hk) hin kk
theorem gm_iast (hM : Mm σ o ad S) {k : Nat} {i x : Int32} (hd : decode M.2.1 pc = .ok (.iastore, 1)) (hk : mKind k = 1) (hin : vp_in i (mLen k)) (kk : ∀ σ', Mm σ' o ad (uI S k (upd (S.2.2.1 k) i.toNatClampNeg x)) → G l M d bc bs post σ' (pc + 1) ls rest) : G l M d bc bs post σ pc ls (.int x :: .int i :: .ref (ad k) :: rest) := g_iast hd (hM.2.1 k hk) hin (kk _ (hM.arI hk _))
theorem gm_zast (hM : Mm σ o ad S) {k : Nat} {i x : Int32} (hd : decode M.2.1 pc = .ok (.bastore, 1)) (hk : mKind k = 3) (hin : vp_in i (mLen k)) (kk : ∀ σ', Mm σ' o ad (uI S k (upd (S.2.2.1 k) i.toNatClampNeg (vp_nar .boolean x))) → G l M d bc bs post σ' (pc + 1) ls rest) : G l M d bc bs post σ pc ls (.int x :: .int i :: .ref (ad k) :: rest) := g_zast hd (hM.2.2.2.1 k hk) hin (kk _ (hM.arZ hk _))
theorem gm_last (hM : Mm σ o ad S) {k : Nat} {i : Int32} {x : Int64} (hd : decode M.2.1 pc = .ok (.lastore, 1)) (hk : mKind k = 2) (hin : vp_in i (mLen k)) (kk : ∀ σ', Mm σ' o ad (uJ S k (vp_updL (S.2.2.2 k) i.toNatClampNeg x)) → G l M d bc bs post σ' (pc + 1) ls rest) : G l M d bc bs post σ pc ls (.long x :: .int i :: .ref (ad k) :: rest) := g_last hd (hM.2.2.1 k hk) hin (kk _ (hM.arJ hk _))
end GMM
