/-! the class's heap: cells with names; what changes, by name -/
def Pt (σ : gH) (ow : Nat → Nat) (a n : Nat) (c : gC) : Prop := σ a = some c ∧ ow a = n
/-- cells whose name isn't in ex stay as they are, and keep their names -/
def Sm (ex : Nat → Prop) (σ : gH) (ow : Nat → Nat) (σ' : gH) (ow' : Nat → Nat) : Prop := ∀ a c, σ a = some c → ¬ ex (ow a) → σ' a = some c ∧ ow' a = ow a
theorem Sm.rf (ex : Nat → Prop) (σ : gH) (ow : Nat → Nat) : Sm ex σ ow σ ow := fun _ _ h _ => ⟨h, rfl⟩
theorem Sm.tr {ex : Nat → Prop} {σ σ1 σ2 : gH} {ow ow1 ow2 : Nat → Nat} (h : Sm ex σ ow σ1 ow1) (h' : Sm ex σ1 ow1 σ2 ow2) : Sm ex σ ow σ2 ow2 := by
  intro a c ha hx
  obtain ⟨q1, q2⟩ := h a c ha hx
  obtain ⟨q3, q4⟩ := h' a c q1 (by rw [q2]; exact hx)
  exact ⟨q3, q4.trans q2⟩
theorem Sm.wk {ex ex' : Nat → Prop} {σ σ1 : gH} {ow ow1 : Nat → Nat} (h : Sm ex σ ow σ1 ow1) (hx : ∀ n, ex n → ex' n) : Sm ex' σ ow σ1 ow1 := fun a c ha hn => h a c ha (fun z => hn (hx _ z))
theorem Sm.stp {ex : Nat → Prop} {σ : gH} {ow : Nat → Nat} {b : Nat} (hb : ex (ow b)) (c : gC) : Sm ex σ ow (su σ b c) ow := by
  intro a c' ha hx
  refine ⟨?_, rfl⟩
  rw [su_ne _ _ (fun e => hx (by rw [e]; exact hb))]
  exact ha
theorem Sm.fre {σ : gH} {ow : Nat → Nat} {q : Nat} (hq : σ q = none) (ex : Nat → Prop) (c : gC) (n : Nat) : Sm ex σ ow (su σ q c) (va_up ow q n) := by
  intro a c' ha _
  have hne : a ≠ q := fun e => by rw [e, hq] at ha; cases ha
  exact ⟨by rw [su_ne _ _ hne]; exact ha, va_up_ne _ _ hne⟩
theorem Pt.mono {ex : Nat → Prop} {σ σ' : gH} {ow ow' : Nat → Nat} {a n : Nat} {c : gC} (h : Pt σ ow a n c) (hs : Sm ex σ ow σ' ow') (hx : ¬ ex n) : Pt σ' ow' a n c := by
  obtain ⟨q1, q2⟩ := hs a c h.1 (by rw [h.2]; exact hx)
  exact ⟨q1, q2.trans h.2⟩
theorem Pt.ne {σ : gH} {ow : Nat → Nat} {a b n m : Nat} {c c' : gC} (h : Pt σ ow a n c) (h' : Pt σ ow b m c') (hn : n ≠ m) : a ≠ b := fun e => hn (by rw [← h.2, ← h'.2, e])
theorem Pt.nq {σ : gH} {ow : Nat → Nat} {a n q : Nat} {c : gC} (h : Pt σ ow a n c) (hq : σ q = none) : a ≠ q := fun e => by
  have := h.1
  rw [e, hq] at this
  cases this
theorem Pt.up {σ : gH} {ow : Nat → Nat} {a n : Nat} {c : gC} (h : Pt σ ow a n c) (c' : gC) : Pt (su σ a c') ow a n c' := ⟨su_self _ _ _, h.2⟩
theorem Pt.new (σ : gH) (ow : Nat → Nat) (q n : Nat) (c : gC) : Pt (su σ q c) (va_up ow q n) q n c := ⟨su_self _ _ _, va_up_self _ _ _⟩
/-- old cells but those of ex stay -/
def Fr (σ σ' : gH) (ex : Nat → Prop) : Prop := ∀ a c, σ a = some c → ¬ ex a → σ' a = some c
section CLeaf
variable {l : Launch} {σ : gH}
theorem c_X0_init {q b : Nat} (h0 : σ q = some (gO 0 [.int 0, .int 0, .int 0, .long 0, .null])) (k s p : Int32) (w : Int64) : Ct l mX0_init 1 0 0 [.ref q, .int k, .int s, .int p, .long w, .ref b] σ (pV fun σ' => σ' = su σ q (gO 0 [.int k, .int s, .int p, .long w, .ref b])) := by
  refine Ct_of moX0_init [some (.ref q), some (.int k), some (.int s), some (.int p), some (.long w), none, some (.ref b)] rfl (Nat.le_of_ble_eq_true rfl) ?_
  refine g_aload_n (i := 0) dX0_init_0 rfl rfl ?_
  refine g_objInit dX0_init_1 lkX0_3 oi_inst oi_code (by decide) (Nat.le_of_ble_eq_true rfl) ?_
  refine g_aload_n (i := 0) dX0_init_4 rfl rfl ?_
  refine g_iload_n (i := 1) dX0_init_5 rfl rfl ?_
  refine g_putF (fs' := [_, _, _, _, _]) dX0_init_6 flX0_9 fp0_0 rfl rfl (by first | assumption | exact su_self _ _ _) rfl rfl (Nat.le_of_ble_eq_true rfl) rfl fLX0_9 ?_
  refine g_aload_n (i := 0) dX0_init_9 rfl rfl ?_
  refine g_iload_n (i := 2) dX0_init_10 rfl rfl ?_
  refine g_putF (fs' := [_, _, _, _, _]) dX0_init_11 flX0_15 fp0_1 rfl rfl (by first | assumption | exact su_self _ _ _) rfl rfl (Nat.le_of_ble_eq_true rfl) rfl fLX0_15 ?_
  refine g_aload_n (i := 0) dX0_init_14 rfl rfl ?_
  refine g_iload_n (i := 3) dX0_init_15 rfl rfl ?_
  refine g_putF (fs' := [_, _, _, _, _]) dX0_init_16 flX0_18 fp0_2 rfl rfl (by first | assumption | exact su_self _ _ _) rfl rfl (Nat.le_of_ble_eq_true rfl) rfl fLX0_18 ?_
  refine g_aload_n (i := 0) dX0_init_19 rfl rfl ?_
  refine g_lload dX0_init_20 rfl ?_
  refine g_putF (fs' := [_, _, _, _, _]) dX0_init_22 flX0_21 fp0_3 rfl rfl (by first | assumption | exact su_self _ _ _) rfl rfl (Nat.le_of_ble_eq_true rfl) rfl fLX0_21 ?_
  refine g_aload_n (i := 0) dX0_init_25 rfl rfl ?_
  refine g_aload dX0_init_26 rfl ?_
  refine g_putF (fs' := [_, _, _, _, _]) dX0_init_28 flX0_25 fp0_4 rfl rfl (by first | assumption | exact su_self _ _ _) rfl rfl (Nat.le_of_ble_eq_true rfl) rfl fLX0_25 ?_
  refine g_vret dX0_init_31 rfl ?_
  exact ⟨rfl, by simp only [su_su]⟩
theorem c_X0_initN {q : Nat} (h0 : σ q = some (gO 0 [.int 0, .int 0, .int 0, .long 0, .null])) (k s p : Int32) (w : Int64) : Ct l mX0_init 1 0 0 [.ref q, .int k, .int s, .int p, .long w, .null] σ (pV fun σ' => σ' = su σ q (gO 0 [.int k, .int s, .int p, .long w, .null])) := by
  refine Ct_of moX0_init [some (.ref q), some (.int k), some (.int s), some (.int p), some (.long w), none, some .null] rfl (Nat.le_of_ble_eq_true rfl) ?_
  refine g_aload_n (i := 0) dX0_init_0 rfl rfl ?_
  refine g_objInit dX0_init_1 lkX0_3 oi_inst oi_code (by decide) (Nat.le_of_ble_eq_true rfl) ?_
  refine g_aload_n (i := 0) dX0_init_4 rfl rfl ?_
  refine g_iload_n (i := 1) dX0_init_5 rfl rfl ?_
  refine g_putF (fs' := [_, _, _, _, _]) dX0_init_6 flX0_9 fp0_0 rfl rfl (by first | assumption | exact su_self _ _ _) rfl rfl (Nat.le_of_ble_eq_true rfl) rfl fLX0_9 ?_
  refine g_aload_n (i := 0) dX0_init_9 rfl rfl ?_
  refine g_iload_n (i := 2) dX0_init_10 rfl rfl ?_
  refine g_putF (fs' := [_, _, _, _, _]) dX0_init_11 flX0_15 fp0_1 rfl rfl (by first | assumption | exact su_self _ _ _) rfl rfl (Nat.le_of_ble_eq_true rfl) rfl fLX0_15 ?_
  refine g_aload_n (i := 0) dX0_init_14 rfl rfl ?_
  refine g_iload_n (i := 3) dX0_init_15 rfl rfl ?_
  refine g_putF (fs' := [_, _, _, _, _]) dX0_init_16 flX0_18 fp0_2 rfl rfl (by first | assumption | exact su_self _ _ _) rfl rfl (Nat.le_of_ble_eq_true rfl) rfl fLX0_18 ?_
  refine g_aload_n (i := 0) dX0_init_19 rfl rfl ?_
  refine g_lload dX0_init_20 rfl ?_
  refine g_putF (fs' := [_, _, _, _, _]) dX0_init_22 flX0_21 fp0_3 rfl rfl (by first | assumption | exact su_self _ _ _) rfl rfl (Nat.le_of_ble_eq_true rfl) rfl fLX0_21 ?_
  refine g_aload_n (i := 0) dX0_init_25 rfl rfl ?_
  refine g_aloadN dX0_init_26 rfl ?_
  refine g_putF (fs' := [_, _, _, _, _]) dX0_init_28 flX0_25 fp0_4 rfl rfl (by first | assumption | exact su_self _ _ _) rfl rfl (Nat.le_of_ble_eq_true rfl) rfl fLX0_25 ?_
  refine g_vret dX0_init_31 rfl ?_
  exact ⟨rfl, by simp only [su_su]⟩
theorem c_X0_isOnForm {q : Nat} {k s p : Int32} {w : Int64} {v : Value} (h0 : σ q = some (gO 0 [.int k, .int s, .int p, .long w, v])) (f : Int32) : Ct l mX0_isOnForm 1 0 0 [.ref q, .int f] σ (pI fun r σ' => r = bI (s = f ∧ (k = 0 ∨ k = 1)) ∧ σ' = σ) := by
  refine Ct_of moX0_isOnForm [some (.ref q), some (.int f)] rfl (Nat.le_of_ble_eq_true rfl) ?_
  refine g_aload_n (i := 0) dX0_isOnForm_0 rfl rfl ?_
  refine g_getf dX0_isOnForm_1 flX0_15 (by assumption) rfl ?_
  refine g_iload_n (i := 1) dX0_isOnForm_4 rfl rfl ?_
  refine g_icmp_ne (tgt := 27) dX0_isOnForm_5 (by decide) (fun zc5 => ?_) (fun zc5 => ?_)
  · refine g_iconst (v := 0) dX0_isOnForm_27 (by decide) ?_
    refine g_zret dX0_isOnForm_28 rfl (rfl) ?_
    exact ⟨_, rfl, by first | exact (bI_t (by simp [*])).symm | exact (bI_f (by simp [*])).symm, rfl⟩
  · refine g_aload_n (i := 0) dX0_isOnForm_8 rfl rfl ?_
    refine g_getf dX0_isOnForm_9 flX0_9 (by assumption) rfl ?_
    refine g_if_eq (tgt := 23) dX0_isOnForm_12 (by decide) (fun zc12 => ?_) (fun zc12 => ?_)
    · refine g_iconst (v := 1) dX0_isOnForm_23 (by decide) ?_
      refine g_goto (tgt := 28) dX0_isOnForm_24 (by decide) ?_
      refine g_zret dX0_isOnForm_28 rfl (rfl) ?_
      exact ⟨_, rfl, by first | exact (bI_t (by simp [*])).symm | exact (bI_f (by simp [*])).symm, rfl⟩
    · refine g_aload_n (i := 0) dX0_isOnForm_15 rfl rfl ?_
      refine g_getf dX0_isOnForm_16 flX0_9 (by assumption) rfl ?_
      refine g_iconst (v := 1) dX0_isOnForm_19 (by decide) ?_
      refine g_icmp_ne (tgt := 27) dX0_isOnForm_20 (by decide) (fun zc20 => ?_) (fun zc20 => ?_)
      · refine g_iconst (v := 0) dX0_isOnForm_27 (by decide) ?_
        refine g_zret dX0_isOnForm_28 rfl (rfl) ?_
        exact ⟨_, rfl, by first | exact (bI_t (by simp [*])).symm | exact (bI_f (by simp [*])).symm, rfl⟩
      · refine g_iconst (v := 1) dX0_isOnForm_23 (by decide) ?_
        refine g_goto (tgt := 28) dX0_isOnForm_24 (by decide) ?_
        refine g_zret dX0_isOnForm_28 rfl (rfl) ?_
        exact ⟨_, rfl, by first | exact (bI_t (by simp [*])).symm | exact (bI_f (by simp [*])).symm, rfl⟩
theorem c_X5_init {q : Nat} (h0 : σ q = some (gO 4 [.int 0, .int 0, .long 0, .null])) (k sk : Int32) (sy : Int64) {n : Nat} (hn : n ≤ 12) : Ct l mX5_init 1 1 12 [.ref q, .int k, .int sk, .long sy, .int (nI n)] σ (pV fun σ' => ∃ c, σ c = none ∧ σ' = su (su σ c (gAl n (fun _ => 0))) q (gO 4 [.int k, .int sk, .long sy, .ref c])) := by
  refine Ct_of moX5_init [some (.ref q), some (.int k), some (.int sk), some (.long sy), none, some (.int (nI n))] rfl (Nat.le_of_ble_eq_true rfl) ?_
  refine g_aload_n (i := 0) dX5_init_0 rfl rfl ?_
  refine g_objInit dX5_init_1 lkX5_1 oi_inst oi_code (by decide) (Nat.le_of_ble_eq_true rfl) ?_
  refine g_aload_n (i := 0) dX5_init_4 rfl rfl ?_
  refine g_iload_n (i := 1) dX5_init_5 rfl rfl ?_
  refine g_putF (fs' := [_, _, _, _]) dX5_init_6 flX5_7 fp4_0 rfl rfl (by first | assumption | exact su_self _ _ _ | (rw [su_ne _ _ (fun e => by rw [← e, su_self] at zhq; cases zhq)]; exact su_self _ _ _)) rfl rfl (Nat.le_of_ble_eq_true rfl) rfl fLX5_7 ?_
  refine g_aload_n (i := 0) dX5_init_9 rfl rfl ?_
  refine g_iload_n (i := 2) dX5_init_10 rfl rfl ?_
  refine g_putF (fs' := [_, _, _, _]) dX5_init_11 flX5_13 fp4_1 rfl rfl (by first | assumption | exact su_self _ _ _ | (rw [su_ne _ _ (fun e => by rw [← e, su_self] at zhq; cases zhq)]; exact su_self _ _ _)) rfl rfl (Nat.le_of_ble_eq_true rfl) rfl fLX5_13 ?_
  refine g_aload_n (i := 0) dX5_init_14 rfl rfl ?_
  refine g_lload_n (i := 3) dX5_init_15 rfl rfl ?_
  refine g_putF (fs' := [_, _, _, _]) dX5_init_16 flX5_16 fp4_2 rfl rfl (by first | assumption | exact su_self _ _ _ | (rw [su_ne _ _ (fun e => by rw [← e, su_self] at zhq; cases zhq)]; exact su_self _ _ _)) rfl rfl (Nat.le_of_ble_eq_true rfl) rfl fLX5_16 ?_
  refine g_aload_n (i := 0) dX5_init_19 rfl rfl ?_
  refine g_iload dX5_init_20 rfl ?_
  refine g_if_ge (tgt := 29) dX5_init_22 (by decide) (fun zc22 => ?_) (fun zc22 => ?_)
  · refine g_iload dX5_init_29 rfl ?_
    refine g_newl (N := n) dX5_init_31 ac_long (nI_pos (by omega)) (nI_clamp (by omega)) (by omega) (by decide) (by omega) (fun zq zhq => ?_)
    refine g_putF (fs' := [_, _, _, _]) dX5_init_33 flX5_20 fp4_3 rfl rfl (by first | assumption | exact su_self _ _ _ | (rw [su_ne _ _ (fun e => by rw [← e, su_self] at zhq; cases zhq)]; exact su_self _ _ _)) rfl rfl (Nat.le_of_ble_eq_true rfl) rfl fLX5_20 ?_
    refine g_vret dX5_init_36 rfl ?_
    have hne : zq ≠ q := fun e => by
      rw [e, su_self] at zhq
      cases zhq
    simp only [su_su] at zhq ⊢
    rw [su_ne _ _ hne] at zhq
    refine ⟨rfl, zq, zhq, ?_⟩
    rw [su_comm _ _ _ (Ne.symm hne), su_su]
  · exact absurd (nI_pos' (by omega)) zc22
theorem c_X5_multiplies {q : Nat} {k sk : Int32} {sy : Int64} {v : Value} (h0 : σ q = some (gO 4 [.int k, .int sk, .long sy, v])) : Ct l mX5_multiplies 1 0 0 [.ref q] σ (pI fun r σ' => r = bI (¬ sk < 2 ∧ ¬ 4 < sk) ∧ σ' = σ) := by
  refine Ct_of moX5_multiplies [some (.ref q)] rfl (Nat.le_of_ble_eq_true rfl) ?_
  refine g_aload_n (i := 0) dX5_multiplies_0 rfl rfl ?_
  refine g_getf dX5_multiplies_1 flX5_13 (by assumption) rfl ?_
  refine g_iconst (v := 2) dX5_multiplies_4 (by decide) ?_
  refine g_icmp_lt (tgt := 20) dX5_multiplies_5 (by decide) (fun zc5 => ?_) (fun zc5 => ?_)
  · refine g_iconst (v := 0) dX5_multiplies_20 (by decide) ?_
    refine g_zret dX5_multiplies_21 rfl (rfl) ?_
    refine ⟨_, rfl, ?_, rfl⟩
    first
    | (refine Eq.symm (bI_t ?_); exact ⟨zc5, zc13⟩)
    | (refine Eq.symm (bI_f ?_); intro z; exact absurd zc5 z.1)
    | (refine Eq.symm (bI_f ?_); intro z; exact absurd zc13 z.2)
  · refine g_aload_n (i := 0) dX5_multiplies_8 rfl rfl ?_
    refine g_getf dX5_multiplies_9 flX5_13 (by assumption) rfl ?_
    refine g_iconst (v := 4) dX5_multiplies_12 (by decide) ?_
    refine g_icmp_gt (tgt := 20) dX5_multiplies_13 (by decide) (fun zc13 => ?_) (fun zc13 => ?_)
    · refine g_iconst (v := 0) dX5_multiplies_20 (by decide) ?_
      refine g_zret dX5_multiplies_21 rfl (rfl) ?_
      refine ⟨_, rfl, ?_, rfl⟩
      first
      | (refine Eq.symm (bI_t ?_); exact ⟨zc5, zc13⟩)
      | (refine Eq.symm (bI_f ?_); intro z; exact absurd zc5 z.1)
      | (refine Eq.symm (bI_f ?_); intro z; exact absurd zc13 z.2)
    · refine g_iconst (v := 1) dX5_multiplies_16 (by decide) ?_
      refine g_goto (tgt := 21) dX5_multiplies_17 (by decide) ?_
      refine g_zret dX5_multiplies_21 rfl (rfl) ?_
      refine ⟨_, rfl, ?_, rfl⟩
      first
      | (refine Eq.symm (bI_t ?_); exact ⟨zc5, zc13⟩)
      | (refine Eq.symm (bI_f ?_); intro z; exact absurd zc5 z.1)
      | (refine Eq.symm (bI_f ?_); intro z; exact absurd zc13 z.2)
theorem c_X5_hasPlace {q c n : Nat} {k sk : Int32} {sy : Int64} {f : Nat → Int64} (h0 : σ q = some (gO 4 [.int k, .int sk, .long sy, .ref c])) (hc : σ c = some (gAl n f)) (x : Int32) : Ct l mX5_hasPlace 1 0 0 [.ref q, .int x] σ (pI fun r σ' => r = bI (¬ x < 0 ∧ x < nI n) ∧ σ' = σ) := by
  refine Ct_of moX5_hasPlace [some (.ref q), some (.int x)] rfl (Nat.le_of_ble_eq_true rfl) ?_
  refine g_iload_n (i := 1) dX5_hasPlace_0 rfl rfl ?_
  refine g_if_lt (tgt := 17) dX5_hasPlace_1 (by decide) (fun zc1 => ?_) (fun zc1 => ?_)
  · refine g_iconst (v := 0) dX5_hasPlace_17 (by decide) ?_
    refine g_zret dX5_hasPlace_18 rfl (rfl) ?_
    refine ⟨_, rfl, ?_, rfl⟩
    first
    | (refine Eq.symm (bI_t ?_); exact ⟨zc1, Int32.not_le.mp zc10⟩)
    | (refine Eq.symm (bI_f ?_); intro z; exact absurd zc1 z.1)
    | (refine Eq.symm (bI_f ?_); intro z; exact absurd zc10 (Int32.not_le.mpr z.2))
  · refine g_iload_n (i := 1) dX5_hasPlace_4 rfl rfl ?_
    refine g_aload_n (i := 0) dX5_hasPlace_5 rfl rfl ?_
    refine g_getf dX5_hasPlace_6 flX5_20 (by assumption) rfl ?_
    refine g_alen dX5_hasPlace_9 (by assumption) (by decide) rfl ?_
    refine g_icmp_ge (tgt := 17) dX5_hasPlace_10 (by decide) (fun zc10 => ?_) (fun zc10 => ?_)
    · refine g_iconst (v := 0) dX5_hasPlace_17 (by decide) ?_
      refine g_zret dX5_hasPlace_18 rfl (rfl) ?_
      refine ⟨_, rfl, ?_, rfl⟩
      first
      | (refine Eq.symm (bI_t ?_); exact ⟨zc1, Int32.not_le.mp zc10⟩)
      | (refine Eq.symm (bI_f ?_); intro z; exact absurd zc1 z.1)
      | (refine Eq.symm (bI_f ?_); intro z; exact absurd zc10 (Int32.not_le.mpr z.2))
    · refine g_iconst (v := 1) dX5_hasPlace_13 (by decide) ?_
      refine g_goto (tgt := 18) dX5_hasPlace_14 (by decide) ?_
      refine g_zret dX5_hasPlace_18 rfl (rfl) ?_
      refine ⟨_, rfl, ?_, rfl⟩
      first
      | (refine Eq.symm (bI_t ?_); exact ⟨zc1, Int32.not_le.mp zc10⟩)
      | (refine Eq.symm (bI_f ?_); intro z; exact absurd zc1 z.1)
      | (refine Eq.symm (bI_f ?_); intro z; exact absurd zc10 (Int32.not_le.mpr z.2))
theorem c_X3_begin {q : Nat} {w0 n0 : Int32} {a b c : Value} (h0 : σ q = some (gO 2 [.int w0, .int n0, a, b, c])) (w : Int32) : Ct l mX3_begin 1 0 0 [.ref q, .int w] σ (pV fun σ' => σ' = su σ q (gO 2 [.int w, .int 0, a, b, c])) := by
  refine Ct_of moX3_begin [some (.ref q), some (.int w)] rfl (Nat.le_of_ble_eq_true rfl) ?_
  refine g_aload_n (i := 0) dX3_begin_0 rfl rfl ?_
  refine g_iload_n (i := 1) dX3_begin_1 rfl rfl ?_
  refine g_putf (fs' := [_, _, _, _, _]) dX3_begin_2 flX3_22 fp2_0 (by first | assumption | exact su_self _ _ _) rfl rfl (Nat.le_of_ble_eq_true rfl) rfl ?_
  refine g_aload_n (i := 0) dX3_begin_5 rfl rfl ?_
  refine g_iconst (v := 0) dX3_begin_6 (by decide) ?_
  refine g_putf (fs' := [_, _, _, _, _]) dX3_begin_7 flX3_26 fp2_1 (by first | assumption | exact su_self _ _ _) rfl rfl (Nat.le_of_ble_eq_true rfl) rfl ?_
  refine g_vret dX3_begin_10 rfl ?_
  exact ⟨rfl, by simp only [su_su]⟩
theorem c_X3_hasStep {q : Nat} {w0 n0 : Int32} {a b c : Value} (h0 : σ q = some (gO 2 [.int w0, .int n0, a, b, c])) (k : Int32) : Ct l mX3_hasStep 1 0 0 [.ref q, .int k] σ (pI fun r σ' => r = bI (¬ k < 0 ∧ k < n0) ∧ σ' = σ) := by
  refine Ct_of moX3_hasStep [some (.ref q), some (.int k)] rfl (Nat.le_of_ble_eq_true rfl) ?_
  refine g_iload_n (i := 1) dX3_hasStep_0 rfl rfl ?_
  refine g_if_lt (tgt := 16) dX3_hasStep_1 (by decide) (fun zc1 => ?_) (fun zc1 => ?_)
  · refine g_iconst (v := 0) dX3_hasStep_16 (by decide) ?_
    refine g_zret dX3_hasStep_17 rfl (rfl) ?_
    refine ⟨_, rfl, ?_, rfl⟩
    first
    | (refine Eq.symm (bI_t ?_); exact ⟨zc1, Int32.not_le.mp zc9⟩)
    | (refine Eq.symm (bI_f ?_); intro z; exact absurd zc1 z.1)
    | (refine Eq.symm (bI_f ?_); intro z; exact absurd zc9 (Int32.not_le.mpr z.2))
  · refine g_iload_n (i := 1) dX3_hasStep_4 rfl rfl ?_
    refine g_aload_n (i := 0) dX3_hasStep_5 rfl rfl ?_
    refine g_getf dX3_hasStep_6 flX3_26 (by assumption) rfl ?_
    refine g_icmp_ge (tgt := 16) dX3_hasStep_9 (by decide) (fun zc9 => ?_) (fun zc9 => ?_)
    · refine g_iconst (v := 0) dX3_hasStep_16 (by decide) ?_
      refine g_zret dX3_hasStep_17 rfl (rfl) ?_
      refine ⟨_, rfl, ?_, rfl⟩
      first
      | (refine Eq.symm (bI_t ?_); exact ⟨zc1, Int32.not_le.mp zc9⟩)
      | (refine Eq.symm (bI_f ?_); intro z; exact absurd zc1 z.1)
      | (refine Eq.symm (bI_f ?_); intro z; exact absurd zc9 (Int32.not_le.mpr z.2))
    · refine g_iconst (v := 1) dX3_hasStep_12 (by decide) ?_
      refine g_goto (tgt := 17) dX3_hasStep_13 (by decide) ?_
      refine g_zret dX3_hasStep_17 rfl (rfl) ?_
      refine ⟨_, rfl, ?_, rfl⟩
      first
      | (refine Eq.symm (bI_t ?_); exact ⟨zc1, Int32.not_le.mp zc9⟩)
      | (refine Eq.symm (bI_f ?_); intro z; exact absurd zc1 z.1)
      | (refine Eq.symm (bI_f ?_); intro z; exact absurd zc9 (Int32.not_le.mpr z.2))
theorem c_X3_removeLast {q : Nat} {w0 : Int32} {n : Nat} (hn : n < 12) {a b c : Value} (h0 : σ q = some (gO 2 [.int w0, .int (nI (n + 1)), a, b, c])) : Ct l mX3_removeLast 1 0 0 [.ref q] σ (pV fun σ' => σ' = su σ q (gO 2 [.int w0, .int (nI n), a, b, c])) := by
  refine Ct_of moX3_removeLast [some (.ref q)] rfl (Nat.le_of_ble_eq_true rfl) ?_
  refine g_aload_n (i := 0) dX3_removeLast_0 rfl rfl ?_
  refine g_getf dX3_removeLast_1 flX3_26 (by assumption) rfl ?_
  refine g_if_le (tgt := 17) dX3_removeLast_4 (by decide) (fun zc4 => ?_) (fun zc4 => ?_)
  · exact absurd zc4 (nI_nle (by omega) (by omega))
  · refine g_aload_n (i := 0) dX3_removeLast_7 rfl rfl ?_
    refine g_dup dX3_removeLast_8 rfl ?_
    refine g_getf dX3_removeLast_9 flX3_26 (by assumption) rfl ?_
    refine g_iconst (v := 1) dX3_removeLast_12 (by decide) ?_
    refine g_isub dX3_removeLast_13 ?_
    rw [nI_pred]
    refine g_putf (fs' := [_, _, _, _, _]) dX3_removeLast_14 flX3_26 fp2_1 (by assumption) rfl rfl (Nat.le_of_ble_eq_true rfl) rfl ?_
    refine g_vret dX3_removeLast_17 rfl ?_
    exact ⟨rfl, rfl⟩
theorem c_X3_add {q ka xa ya : Nat} {w0 : Int32} {n : Nat} (hn : n < 12) {kf xf : Nat → Int32} {yf : Nat → Int64} (h0 : σ q = some (gO 2 [.int w0, .int (nI n), .ref ka, .ref xa, .ref ya])) (hk : σ ka = some (gAi 12 kf)) (hx : σ xa = some (gAi 12 xf)) (hy : σ ya = some (gAl 12 yf)) (hkx : ka ≠ xa) (k x : Int32) (y : Int64) : Ct l mX3_add 1 0 0 [.ref q, .int k, .int x, .long y] σ (pI fun r σ' => r = nI (n + 1) ∧ σ' = su (su (su (su σ ka (gAi 12 (upd kf n k))) xa (gAi 12 (upd xf n x))) ya (gAl 12 (vp_updL yf n y))) q (gO 2 [.int w0, .int (nI (n + 1)), .ref ka, .ref xa, .ref ya])) := by
  have hI : vp_in (nI n) 12 := vp_in_nI hn (by decide)
  have hcn : (nI n).toNatClampNeg = n := nI_clamp (by omega)
  have nk : q ≠ ka := fun e => by rw [e, hk] at h0; cases h0
  have nx : q ≠ xa := fun e => by rw [e, hx] at h0; cases h0
  have ny' : q ≠ ya := fun e => by rw [e, hy] at h0; cases h0
  have ky : ka ≠ ya := fun e => by rw [e, hy] at hk; cases hk
  have xy : xa ≠ ya := fun e => by rw [e, hy] at hx; cases hx
  refine Ct_of moX3_add [some (.ref q), some (.int k), some (.int x), some (.long y), none] rfl (Nat.le_of_ble_eq_true rfl) ?_
  refine g_aload_n (i := 0) dX3_add_0 rfl rfl ?_
  refine g_getf dX3_add_1 flX3_26 (by first | assumption | (simp only [su_ne _ _ nk, su_ne _ _ nx, su_ne _ _ ny', su_ne _ _ (Ne.symm hkx), su_ne _ _ (Ne.symm ky), su_ne _ _ (Ne.symm xy), su_self] <;> first | assumption | rfl)) rfl ?_
  refine g_bipush (v := 12) dX3_add_4 (by decide) ?_
  refine g_icmp_ge (tgt := 49) dX3_add_6 (by decide) (fun zc6 => ?_) (fun zc6 => ?_)
  · exact absurd zc6 (nI_ge (b := 12) hn (by decide))
  · refine g_aload_n (i := 0) dX3_add_9 rfl rfl ?_
    refine g_getf dX3_add_10 flX3_9 (by first | assumption | (simp only [su_ne _ _ nk, su_ne _ _ nx, su_ne _ _ ny', su_ne _ _ (Ne.symm hkx), su_ne _ _ (Ne.symm ky), su_ne _ _ (Ne.symm xy), su_self] <;> first | assumption | rfl)) rfl ?_
    refine g_aload_n (i := 0) dX3_add_13 rfl rfl ?_
    refine g_getf dX3_add_14 flX3_26 (by first | assumption | (simp only [su_ne _ _ nk, su_ne _ _ nx, su_ne _ _ ny', su_ne _ _ (Ne.symm hkx), su_ne _ _ (Ne.symm ky), su_ne _ _ (Ne.symm xy), su_self] <;> first | assumption | rfl)) rfl ?_
    refine g_iload_n (i := 1) dX3_add_17 rfl rfl ?_
    refine g_iast dX3_add_18 (by first | assumption | (simp only [su_ne _ _ nk, su_ne _ _ nx, su_ne _ _ ny', su_ne _ _ (Ne.symm hkx), su_ne _ _ (Ne.symm ky), su_ne _ _ (Ne.symm xy), su_self] <;> first | assumption | rfl)) (hI) ?_
    refine g_aload_n (i := 0) dX3_add_19 rfl rfl ?_
    refine g_getf dX3_add_20 flX3_15 (by first | assumption | (simp only [su_ne _ _ nk, su_ne _ _ nx, su_ne _ _ ny', su_ne _ _ (Ne.symm hkx), su_ne _ _ (Ne.symm ky), su_ne _ _ (Ne.symm xy), su_self] <;> first | assumption | rfl)) rfl ?_
    refine g_aload_n (i := 0) dX3_add_23 rfl rfl ?_
    refine g_getf dX3_add_24 flX3_26 (by first | assumption | (simp only [su_ne _ _ nk, su_ne _ _ nx, su_ne _ _ ny', su_ne _ _ (Ne.symm hkx), su_ne _ _ (Ne.symm ky), su_ne _ _ (Ne.symm xy), su_self] <;> first | assumption | rfl)) rfl ?_
    refine g_iload_n (i := 2) dX3_add_27 rfl rfl ?_
    refine g_iast dX3_add_28 (by first | assumption | (simp only [su_ne _ _ nk, su_ne _ _ nx, su_ne _ _ ny', su_ne _ _ (Ne.symm hkx), su_ne _ _ (Ne.symm ky), su_ne _ _ (Ne.symm xy), su_self] <;> first | assumption | rfl)) (hI) ?_
    refine g_aload_n (i := 0) dX3_add_29 rfl rfl ?_
    refine g_getf dX3_add_30 flX3_18 (by first | assumption | (simp only [su_ne _ _ nk, su_ne _ _ nx, su_ne _ _ ny', su_ne _ _ (Ne.symm hkx), su_ne _ _ (Ne.symm ky), su_ne _ _ (Ne.symm xy), su_self] <;> first | assumption | rfl)) rfl ?_
    refine g_aload_n (i := 0) dX3_add_33 rfl rfl ?_
    refine g_getf dX3_add_34 flX3_26 (by first | assumption | (simp only [su_ne _ _ nk, su_ne _ _ nx, su_ne _ _ ny', su_ne _ _ (Ne.symm hkx), su_ne _ _ (Ne.symm ky), su_ne _ _ (Ne.symm xy), su_self] <;> first | assumption | rfl)) rfl ?_
    refine g_lload_n (i := 3) dX3_add_37 rfl rfl ?_
    refine g_last dX3_add_38 (by first | assumption | (simp only [su_ne _ _ nk, su_ne _ _ nx, su_ne _ _ ny', su_ne _ _ (Ne.symm hkx), su_ne _ _ (Ne.symm ky), su_ne _ _ (Ne.symm xy), su_self] <;> first | assumption | rfl)) (hI) ?_
    refine g_aload_n (i := 0) dX3_add_39 rfl rfl ?_
    refine g_dup dX3_add_40 rfl ?_
    refine g_getf dX3_add_41 flX3_26 (by first | assumption | (simp only [su_ne _ _ nk, su_ne _ _ nx, su_ne _ _ ny', su_ne _ _ (Ne.symm hkx), su_ne _ _ (Ne.symm ky), su_ne _ _ (Ne.symm xy), su_self] <;> first | assumption | rfl)) rfl ?_
    refine g_iconst (v := 1) dX3_add_44 (by decide) ?_
    refine g_iadd dX3_add_45 ?_
    rw [nI_1]
    refine g_putf (fs' := [_, _, _, _, _]) dX3_add_46 flX3_26 fp2_1 (by first | assumption | (simp only [su_ne _ _ nk, su_ne _ _ nx, su_ne _ _ ny', su_ne _ _ (Ne.symm hkx), su_ne _ _ (Ne.symm ky), su_ne _ _ (Ne.symm xy), su_self] <;> first | assumption | rfl)) rfl rfl (Nat.le_of_ble_eq_true rfl) rfl ?_
    refine g_aload_n (i := 0) dX3_add_49 rfl rfl ?_
    refine g_getf dX3_add_50 flX3_26 (by first | assumption | (simp only [su_ne _ _ nk, su_ne _ _ nx, su_ne _ _ ny', su_ne _ _ (Ne.symm hkx), su_ne _ _ (Ne.symm ky), su_ne _ _ (Ne.symm xy), su_self] <;> first | assumption | rfl)) rfl ?_
    refine g_iret dX3_add_53 rfl ?_
    exact ⟨_, rfl, rfl, by rw [hcn]⟩
end CLeaf
