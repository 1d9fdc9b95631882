/-! the class's constructors -/
theorem nz {σ : gH} {q z : Nat} {obj c : gC} (h0 : σ q = some obj) (hz : σ z = none) : su σ z c q = some obj := by
  rw [su_ne _ _ (fun e => by rw [← e, h0] at hz; cases hz)]
  exact h0
def YL (σ0 : gH) (ow0 : Nat → Nat) (σ : gH) (ow : Nat → Nat) (q nq : Nat) (L : List (Nat × Nat × gC)) : Prop := Sm (fun m => m = nq) σ0 ow0 σ ow ∧ (∃ c, Pt σ ow q nq c) ∧ ∀ t ∈ L, Pt σ ow t.1 t.2.1 t.2.2 ∧ t.2.1 ≠ nq
theorem YL.new {σ0 σ : gH} {ow0 ow : Nat → Nat} {q nq : Nat} {L : List (Nat × Nat × gC)} (h : YL σ0 ow0 σ ow q nq L) {z : Nat} (hz : σ z = none) {n : Nat} (hn : n ≠ nq) (c : gC) : YL σ0 ow0 (su σ z c) (va_up ow z n) q nq ((z, n, c) :: L) := by
  have hs : Sm (fun _ => False) σ ow (su σ z c) (va_up ow z n) := Sm.none hz c n
  obtain ⟨h1, ⟨c0, h2⟩, h3⟩ := h
  refine ⟨h1.tr (hs.wk (fun _ z => z.elim)), ⟨c0, h2.mono hs (fun z => z)⟩, fun t ht => ?_⟩
  rcases List.mem_cons.mp ht with e | ht
  · subst e
    exact ⟨Pt.new _ _ _ _ _, hn⟩
  · exact ⟨(h3 t ht).1.mono hs (fun z => z), (h3 t ht).2⟩
theorem YL.put {σ0 σ : gH} {ow0 ow : Nat → Nat} {q nq : Nat} {L : List (Nat × Nat × gC)} (h : YL σ0 ow0 σ ow q nq L) (obj : gC) : YL σ0 ow0 (su σ q obj) ow q nq L := by
  obtain ⟨h1, ⟨c0, h2⟩, h3⟩ := h
  have hs : Sm (fun m => m = nq) σ ow (su σ q obj) ow := Sm.stp h2.2 obj
  exact ⟨h1.tr hs, ⟨obj, h2.up obj⟩, fun t ht => ⟨(h3 t ht).1.mono hs (h3 t ht).2, (h3 t ht).2⟩⟩
theorem YL.add {σ0 σ : gH} {ow0 ow : Nat → Nat} {q nq : Nat} {L : List (Nat × Nat × gC)} (h : YL σ0 ow0 σ ow q nq L) {z : Nat} (hz : σ z = none) {n : Nat} (hn : n ≠ nq) (c obj : gC) : YL σ0 ow0 (su (su σ z c) q obj) (va_up ow z n) q nq ((z, n, c) :: L) := (h.new hz hn c).put obj
theorem ex_z {σ : gH} {q z z' z'' : Nat} {obj obj' c c' d : gC} (ha : σ z = some d) (h : (su (su (su (su σ z' c) q obj) z'' c') q obj') z = none) : False := by
  have h1 : z ≠ q := fun e => by rw [e, su_self] at h; cases h
  rw [su_ne _ _ h1] at h
  have h2 : z ≠ z'' := fun e => by rw [e, su_self] at h; cases h
  rw [su_ne _ _ h2, su_ne _ _ h1] at h
  have h3 : z ≠ z' := fun e => by rw [e, su_self] at h; cases h
  rw [su_ne _ _ h3, ha] at h
  cases h
theorem Pt.sm {σ : gH} {ow : Nat → Nat} {a n : Nat} {c0 : gC} (h : Pt σ ow a n c0) (c : gC) : Sm (fun m => m = n) σ ow (su σ a c) ow := Sm.stp h.2 c
theorem Sm.off {ex : Nat → Prop} {σ0 σ : gH} {ow0 ow : Nat → Nat} (h : Sm ex σ0 ow0 σ ow) {z : Nat} (hz : σ0 z = Option.none) (c : gC) : Sm ex σ0 ow0 (su σ z c) ow := by
  intro a d ha hx
  obtain ⟨w1, w2⟩ := h a d ha hx
  refine ⟨?_, w2⟩
  rw [su_ne _ _ (fun e => by rw [e, hz] at ha; cases ha)]
  exact w1
section CInit
variable {l : Launch} {τ : gH}
theorem c_X4_init {q : Nat} (h0 : τ q = some (gO 3 [.null, .int 0])) : Ct l mX4_init 1 1 50 [.ref q] τ (pV fun σ' => ∃ c, τ c = none ∧ σ' = su (su τ c (gAq (.object RX0) 50 (fun _ => none))) q (gO 3 [.ref c, .int 0])) := by
  refine Ct_of moX4_init [some (.ref q)] rfl (Nat.le_of_ble_eq_true rfl) ?_
  refine g_aload_n (i := 0) dX4_init_0 rfl rfl ?_
  refine g_objInit dX4_init_1 lkX4_3 oi_inst oi_code (by decide) (Nat.le_of_ble_eq_true rfl) ?_
  refine g_aload_n (i := 0) dX4_init_4 rfl rfl ?_
  refine g_bipush (v := 50) dX4_init_5 (by decide) ?_
  refine g_newq dX4_init_7 clX4_9 (fun U h => h.2.2.2.1) (by decide) (by decide) rfl (by decide) (by decide) (by decide) (fun zq7 zhq7 => ?_)
  refine g_putF (fs' := [_, _]) dX4_init_10 flX4_11 fp3_0 rfl rfl (nz h0 (by assumption)) rfl rfl (Nat.le_of_ble_eq_true rfl) rfl fLX4_11 ?_
  refine g_vret dX4_init_13 rfl ?_
  exact ⟨rfl, _, zhq7, rfl⟩
theorem c_X8_init {q : Nat} {ow : Nat → Nat} (h0 : Pt τ ow q 8 (gO 6 [.null, .int 0, .null, .null, .null, .int 0, .null, .null, .null, .null, .null, .int 0, .int 0, .null])) : Ct l mX8_init 1 13 1625 [.ref q] τ (pV fun σ' => ∃ ow', Sm (fun m => m = 8) τ ow σ' ow' ∧ SeC σ' ow' q) := by
  have Y0 : YL τ ow τ ow q 8 [] := ⟨Sm.rf _ _ _, ⟨_, h0⟩, fun t ht => by cases ht⟩
  refine Ct_of moX8_init [some (.ref q)] rfl (Nat.le_of_ble_eq_true rfl) ?_
  refine g_aload_n (i := 0) dX8_init_0 rfl rfl ?_
  refine g_objInit dX8_init_1 lkX8_3 oi_inst oi_code (by decide) (Nat.le_of_ble_eq_true rfl) ?_
  refine g_aload_n (i := 0) dX8_init_4 rfl rfl ?_
  refine g_bipush (v := 13) dX8_init_5 (by decide) ?_
  refine g_newi dX8_init_7 ac_int (by decide) rfl (by decide) (by decide) (by decide) (fun zq7 zhq7 => ?_)
  refine g_putF (fs' := [_, _, _, _, _, _, _, _, _, _, _, _, _, _]) dX8_init_9 flX8_9 fp6_0 rfl rfl (by first | exact nz h0.1 (by assumption) | exact nz (su_self _ _ _) (by assumption)) rfl rfl (Nat.le_of_ble_eq_true rfl) rfl fLX8_9 ?_
  have Y0 := Y0.add zhq7 (n := 10) (by decide) (gAi 13 (fun _ => 0)) (gO 6 [.ref zq7, .int 0, .null, .null, .null, .int 0, .null, .null, .null, .null, .null, .int 0, .int 0, .null])
  refine g_aload_n (i := 0) dX8_init_12 rfl rfl ?_
  refine g_sipush (v := 256) dX8_init_13 (by decide) ?_
  refine g_newl dX8_init_16 ac_long (by decide) rfl (by decide) (by decide) (by decide) (fun zq16 zhq16 => ?_)
  refine g_putF (fs' := [_, _, _, _, _, _, _, _, _, _, _, _, _, _]) dX8_init_18 flX8_15 fp6_2 rfl rfl (by first | exact nz h0.1 (by assumption) | exact nz (su_self _ _ _) (by assumption)) rfl rfl (Nat.le_of_ble_eq_true rfl) rfl fLX8_15 ?_
  have Y0 := Y0.add zhq16 (n := 11) (by decide) (gAl 256 (fun _ => 0)) (gO 6 [.ref zq7, .int 0, .ref zq16, .null, .null, .int 0, .null, .null, .null, .null, .null, .int 0, .int 0, .null])
  refine g_aload_n (i := 0) dX8_init_21 rfl rfl ?_
  refine g_iconst (v := 3) dX8_init_22 (by decide) ?_
  refine g_sipush (v := 256) dX8_init_23 (by decide) ?_
  refine g_multi dX8_init_26 clX8_19 (by decide) (by decide) (fun zq zh0 zh1 zh2 zh3 => ?_)
  refine g_putF (fs' := [_, _, _, _, _, _, _, _, _, _, _, _, _, _]) dX8_init_30 flX8_21 fp6_3 rfl rfl (nz (nz (nz (nz (su_self _ _ _) zh0) zh1) zh2) zh3) rfl rfl (Nat.le_of_ble_eq_true rfl) rfl fLX8_21 ?_
  have Y0 := ((((Y0.new zh0 (n := 12) (by decide) _).new zh1 (n := 13) (by decide) _).new zh2 (n := 14) (by decide) _).new zh3 (n := 15) (by decide) (gAl 256 (fun _ => 0))).put (gO 6 [.ref zq7, .int 0, .ref zq16, .ref zq, .null, .int 0, .null, .null, .null, .null, .null, .int 0, .int 0, .null])
  refine g_aload_n (i := 0) dX8_init_33 rfl rfl ?_
  refine g_iconst (v := 3) dX8_init_34 (by decide) ?_
  refine g_newi dX8_init_35 ac_int (by decide) rfl (by decide) (by decide) (by decide) (fun zq35 zhq35 => ?_)
  refine g_putF (fs' := [_, _, _, _, _, _, _, _, _, _, _, _, _, _]) dX8_init_37 flX8_24 fp6_4 rfl rfl (by first | exact nz h0.1 (by assumption) | exact nz (su_self _ _ _) (by assumption)) rfl rfl (Nat.le_of_ble_eq_true rfl) rfl fLX8_24 ?_
  have Y0 := Y0.add zhq35 (n := 16) (by decide) (gAi 3 (fun _ => 0)) (gO 6 [.ref zq7, .int 0, .ref zq16, .ref zq, .ref zq35, .int 0, .null, .null, .null, .null, .null, .int 0, .int 0, .null])
  refine g_aload_n (i := 0) dX8_init_40 rfl rfl ?_
  refine g_sipush (v := 144) dX8_init_41 (by decide) ?_
  refine g_newi dX8_init_44 ac_int (by decide) rfl (by decide) (by decide) (by decide) (fun zq44 zhq44 => ?_)
  refine g_putF (fs' := [_, _, _, _, _, _, _, _, _, _, _, _, _, _]) dX8_init_46 flX8_27 fp6_6 rfl rfl (by first | exact nz h0.1 (by assumption) | exact nz (su_self _ _ _) (by assumption)) rfl rfl (Nat.le_of_ble_eq_true rfl) rfl fLX8_27 ?_
  have Y0 := Y0.add zhq44 (n := 17) (by decide) (gAi 144 (fun _ => 0)) (gO 6 [.ref zq7, .int 0, .ref zq16, .ref zq, .ref zq35, .int 0, .ref zq44, .null, .null, .null, .null, .int 0, .int 0, .null])
  refine g_aload_n (i := 0) dX8_init_49 rfl rfl ?_
  refine g_sipush (v := 144) dX8_init_50 (by decide) ?_
  refine g_newi dX8_init_53 ac_int (by decide) rfl (by decide) (by decide) (by decide) (fun zq53 zhq53 => ?_)
  refine g_putF (fs' := [_, _, _, _, _, _, _, _, _, _, _, _, _, _]) dX8_init_55 flX8_30 fp6_7 rfl rfl (by first | exact nz h0.1 (by assumption) | exact nz (su_self _ _ _) (by assumption)) rfl rfl (Nat.le_of_ble_eq_true rfl) rfl fLX8_30 ?_
  have Y0 := Y0.add zhq53 (n := 18) (by decide) (gAi 144 (fun _ => 0)) (gO 6 [.ref zq7, .int 0, .ref zq16, .ref zq, .ref zq35, .int 0, .ref zq44, .ref zq53, .null, .null, .null, .int 0, .int 0, .null])
  refine g_aload_n (i := 0) dX8_init_58 rfl rfl ?_
  refine g_sipush (v := 144) dX8_init_59 (by decide) ?_
  refine g_newl dX8_init_62 ac_long (by decide) rfl (by decide) (by decide) (by decide) (fun zq62 zhq62 => ?_)
  refine g_putF (fs' := [_, _, _, _, _, _, _, _, _, _, _, _, _, _]) dX8_init_64 flX8_33 fp6_8 rfl rfl (by first | exact nz h0.1 (by assumption) | exact nz (su_self _ _ _) (by assumption)) rfl rfl (Nat.le_of_ble_eq_true rfl) rfl fLX8_33 ?_
  have Y0 := Y0.add zhq62 (n := 19) (by decide) (gAl 144 (fun _ => 0)) (gO 6 [.ref zq7, .int 0, .ref zq16, .ref zq, .ref zq35, .int 0, .ref zq44, .ref zq53, .ref zq62, .null, .null, .int 0, .int 0, .null])
  refine g_aload_n (i := 0) dX8_init_67 rfl rfl ?_
  refine g_sipush (v := 144) dX8_init_68 (by decide) ?_
  refine g_newi dX8_init_71 ac_int (by decide) rfl (by decide) (by decide) (by decide) (fun zq71 zhq71 => ?_)
  refine g_putF (fs' := [_, _, _, _, _, _, _, _, _, _, _, _, _, _]) dX8_init_73 flX8_36 fp6_9 rfl rfl (by first | exact nz h0.1 (by assumption) | exact nz (su_self _ _ _) (by assumption)) rfl rfl (Nat.le_of_ble_eq_true rfl) rfl fLX8_36 ?_
  have Y0 := Y0.add zhq71 (n := 20) (by decide) (gAi 144 (fun _ => 0)) (gO 6 [.ref zq7, .int 0, .ref zq16, .ref zq, .ref zq35, .int 0, .ref zq44, .ref zq53, .ref zq62, .ref zq71, .null, .int 0, .int 0, .null])
  refine g_aload_n (i := 0) dX8_init_76 rfl rfl ?_
  refine g_iconst (v := 3) dX8_init_77 (by decide) ?_
  refine g_newi dX8_init_78 ac_int (by decide) rfl (by decide) (by decide) (by decide) (fun zq78 zhq78 => ?_)
  refine g_putF (fs' := [_, _, _, _, _, _, _, _, _, _, _, _, _, _]) dX8_init_80 flX8_39 fp6_10 rfl rfl (by first | exact nz h0.1 (by assumption) | exact nz (su_self _ _ _) (by assumption)) rfl rfl (Nat.le_of_ble_eq_true rfl) rfl fLX8_39 ?_
  have Y0 := Y0.add zhq78 (n := 21) (by decide) (gAi 3 (fun _ => 0)) (gO 6 [.ref zq7, .int 0, .ref zq16, .ref zq, .ref zq35, .int 0, .ref zq44, .ref zq53, .ref zq62, .ref zq71, .ref zq78, .int 0, .int 0, .null])
  refine g_aload_n (i := 0) dX8_init_83 rfl rfl ?_
  refine g_iconst (v := 3) dX8_init_84 (by decide) ?_
  refine g_newi dX8_init_85 ac_int (by decide) rfl (by decide) (by decide) (by decide) (fun zq85 zhq85 => ?_)
  refine g_putF (fs' := [_, _, _, _, _, _, _, _, _, _, _, _, _, _]) dX8_init_87 flX8_42 fp6_13 rfl rfl (by first | exact nz h0.1 (by assumption) | exact nz (su_self _ _ _) (by assumption)) rfl rfl (Nat.le_of_ble_eq_true rfl) rfl fLX8_42 ?_
  have Y0 := Y0.add zhq85 (n := 22) (by decide) (gAi 3 (fun _ => 0)) (gO 6 [.ref zq7, .int 0, .ref zq16, .ref zq, .ref zq35, .int 0, .ref zq44, .ref zq53, .ref zq62, .ref zq71, .ref zq78, .int 0, .int 0, .ref zq85])
  obtain ⟨y1, ⟨cc, y2⟩, y3⟩ := Y0
  have p12 := (y3 (zq, 12, gAq (.array .long) 3 (fun k => some (zq + 1 + k))) (by simp)).1
  refine g_ext (f' := fun k => some ((fun k => if k = 10 then zq7 else if k = 11 then zq16 else if k = 12 then zq else if k = 13 then zq + 1 else if k = 14 then zq + 1 + 1 else if k = 15 then zq + 1 + 1 + 1 else if k = 16 then zq35 else if k = 17 then zq44 else if k = 18 then zq53 else if k = 19 then zq62 else if k = 20 then zq71 else if k = 21 then zq78 else zq85) (13 + k))) p12.1 (fun k hk => by rcases (show k = 0 ∨ k = 1 ∨ k = 2 by omega) with rfl | rfl | rfl <;> rfl) ?_
  have hs9 := p12.sm (gAq (.array .long) 3 (fun k => some ((fun k => if k = 10 then zq7 else if k = 11 then zq16 else if k = 12 then zq else if k = 13 then zq + 1 else if k = 14 then zq + 1 + 1 else if k = 15 then zq + 1 + 1 + 1 else if k = 16 then zq35 else if k = 17 then zq44 else if k = 18 then zq53 else if k = 19 then zq62 else if k = 20 then zq71 else if k = 21 then zq78 else zq85) (13 + k))))
  refine g_vret dX8_init_90 rfl ?_
  have hz0 : τ zq = none := by
    cases e : τ zq with
    | none => rfl
    | some d => exact (ex_z e zh0).elim
  refine ⟨rfl, _, y1.off hz0 _, (fun k => if k = 10 then zq7 else if k = 11 then zq16 else if k = 12 then zq else if k = 13 then zq + 1 else if k = 14 then zq + 1 + 1 else if k = 15 then zq + 1 + 1 + 1 else if k = 16 then zq35 else if k = 17 then zq44 else if k = 18 then zq53 else if k = 19 then zq62 else if k = 20 then zq71 else if k = 21 then zq78 else zq85), (0, 0, 0, 0), fun _ _ => 0, fun _ _ => 0, ?_⟩
  · refine ⟨Pt.mono ⟨su_self _ _ _, y2.2⟩ hs9 (by simp), ⟨(y3 (zq7, 10, gAi 13 (fun _ => 0)) (by simp)).1.mono hs9 (by simp), (y3 (zq16, 11, gAl 256 (fun _ => 0)) (by simp)).1.mono hs9 (by simp), p12.up _⟩, fun k hk => ?_, (y3 (zq35, 16, gAi 3 (fun _ => 0)) (by simp)).1.mono hs9 (by simp), (y3 (zq44, 17, gAi 144 (fun _ => 0)) (by simp)).1.mono hs9 (by simp), (y3 (zq53, 18, gAi 144 (fun _ => 0)) (by simp)).1.mono hs9 (by simp), (y3 (zq62, 19, gAl 144 (fun _ => 0)) (by simp)).1.mono hs9 (by simp), (y3 (zq71, 20, gAi 144 (fun _ => 0)) (by simp)).1.mono hs9 (by simp), (y3 (zq78, 21, gAi 3 (fun _ => 0)) (by simp)).1.mono hs9 (by simp), (y3 (zq85, 22, gAi 3 (fun _ => 0)) (by simp)).1.mono hs9 (by simp)⟩
    rcases (show k = 0 ∨ k = 1 ∨ k = 2 by omega) with rfl | rfl | rfl
    · exact (y3 (zq + 1, 13, gAl 256 (fun _ => 0)) (by simp)).1.mono hs9 (by simp)
    · exact (y3 (zq + 1 + 1, 14, gAl 256 (fun _ => 0)) (by simp)).1.mono hs9 (by simp)
    · exact (y3 (zq + 1 + 1 + 1, 15, gAl 256 (fun _ => 0)) (by simp)).1.mono hs9 (by simp)
end CInit
