/-! the reference's constructor -/
def pfr (a : Nat → Nat) (n k : Nat) : Value := if k < n then .ref (a k) else .null
def pfs (a : Nat → Nat) (n : Nat) : List Value := [.int 0, .long 0, .int 0, pfr a n 3, pfr a n 4, pfr a n 5, pfr a n 6, pfr a n 7, pfr a n 8, pfr a n 9, .int 0, pfr a n 11, pfr a n 12, pfr a n 13, pfr a n 14, pfr a n 15, pfr a n 16, pfr a n 17, .long 0, .int 0, .long 0, .long 0, .int 0, .int 0, .long 0, .int 0, pfr a n 26, pfr a n 27, .int 0, pfr a n 29, pfr a n 30, pfr a n 31, pfr a n 32, pfr a n 33, pfr a n 34, pfr a n 35, pfr a n 36, pfr a n 37, .int 0, .int 0]
def mPr0 : Nat → Int32 := fun k => ([1, 1, 4, 4, 3, 1, 1, 1, 1, 1, 1, 1, 1] : List Int32).getD k 0
def mS0 : mS := (fun _ => 0, fun _ => 0, fun k => if k = 8 then mPr0 else fun _ => 0, fun _ _ => 0)
def mC0 (k : Nat) : gC := if mKind k = 1 then gAi (mLen k) (mS0.2.2.1 k) else if mKind k = 2 then gAl (mLen k) (mS0.2.2.2 k) else gAz (mLen k) (mS0.2.2.1 k)
def PM (σ : gH) (o : Nat) (a : Nat → Nat) (n : Nat) : Prop := σ o = some (gO 9 (pfs a n)) ∧ (∀ k, k < n → mKind k ≠ 0 → σ (a k) = some (mC0 k)) ∧ (∀ j k, j < n → k < n → mKind j ≠ 0 → mKind k ≠ 0 → a j = a k → j = k)
theorem mC0_ne (k : Nat) (fs : List Value) : mC0 k ≠ gO 9 fs := by
  unfold mC0
  split
  · intro e; cases e
  · split
    · intro e; cases e
    · intro e; cases e
theorem PM.add {σ : gH} {o q : Nat} {a : Nat → Nat} {n : Nat} {c : gC} (h : PM σ o a n) (hq : σ q = none) (hc : c = mC0 n) : ∃ a', PM (su (su σ q c) o (gO 9 (pfs (va_up a n q) (n + 1)))) o a' (n + 1) := by
  subst hc
  refine ⟨va_up a n q, su_self _ _ _, fun k hk hm => ?_, fun i j hi hj mi mj e => ?_⟩
  · by_cases e : k = n
    · subst e
      rw [va_up_self, su_ne _ _ (fun z => by rw [z, h.1] at hq; cases hq), su_self]
    · rw [va_up_ne _ _ e]
      have hk' := h.2.1 k (by omega) hm
      rw [su_ne _ _ (fun z => by rw [z, h.1] at hk'; exact mC0_ne k _ (Option.some.inj hk').symm), su_ne _ _ (fun z => by rw [z, hq] at hk'; cases hk')]
      exact hk'
  · by_cases e1 : i = n
    · by_cases e2 : j = n
      · omega
      · subst e1
        rw [va_up_self, va_up_ne _ _ e2] at e
        have hj' := h.2.1 j (by omega) mj
        rw [← e, hq] at hj'
        cases hj'
    · by_cases e2 : j = n
      · subst e2
        rw [va_up_self, va_up_ne _ _ e1] at e
        have hi' := h.2.1 i (by omega) mi
        rw [e, hq] at hi'
        cases hi'
      · rw [va_up_ne _ _ e1, va_up_ne _ _ e2] at e
        exact h.2.2 i j (by omega) (by omega) mi mj e
theorem PM.sk {σ : gH} {o : Nat} {a : Nat → Nat} {n m : Nat} (h : PM σ o a n) (hz : ∀ k, n ≤ k → k < m → mKind k = 0) (hp : pfs a m = pfs a n) : PM σ o a m := by
  have hlt : ∀ k, k < m → mKind k ≠ 0 → k < n := fun k hk hm => by
    rcases Nat.lt_or_ge k n with z | z
    · exact z
    · exact absurd (hz k z hk) hm
  exact ⟨by rw [hp]; exact h.1, fun k hk hm => h.2.1 k (hlt k hk hm) hm, fun i j hi hj mi mj e => h.2.2 i j (hlt i hi mi) (hlt j hj mj) mi mj e⟩
theorem PM.oq {σ : gH} {o q : Nat} {a : Nat → Nat} {n : Nat} {c : gC} (h : PM σ o a n) (hq : σ q = none) : su σ q c o = some (gO 9 (pfs a n)) := by
  rw [su_ne _ _ (fun z => by rw [← z, h.1] at hq; cases hq)]
  exact h.1
theorem PM.Mm {σ : gH} {o : Nat} {a : Nat → Nat} (h : PM σ o a 40) : Mm σ o a mS0 := by
  have h40 : ∀ k, mKind k ≠ 0 → k < 40 := by
    intro k hk
    rcases Nat.lt_or_ge k 40 with z | z
    · exact z
    · exact absurd (by
        unfold mKind
        split <;> first | omega | rfl) hk
  refine ⟨h.1, fun k hk => ?_, fun k hk => ?_, fun k hk => ?_, fun j k hj hk e => h.2.2 j k (h40 j hj) (h40 k hk) hj hk e⟩
  · have h0 : mKind k ≠ 0 := by rw [hk]; decide
    have := h.2.1 k (h40 k h0) h0
    rw [mC0, if_pos hk] at this
    exact this
  · have h0 : mKind k ≠ 0 := by rw [hk]; decide
    have := h.2.1 k (h40 k h0) h0
    rw [mC0, if_neg (by rw [hk]; decide), if_pos hk] at this
    exact this
  · have h0 : mKind k ≠ 0 := by rw [hk]; decide
    have := h.2.1 k (h40 k h0) h0
    rw [mC0, if_neg (by rw [hk]; decide), if_neg (by rw [hk]; decide)] at this
    exact this
theorem mPr0_eq : (upd (upd (upd (upd (upd (upd (upd (upd (upd (upd (upd (upd (upd (fun _ => (0 : Int32)) (0 : Int32).toNatClampNeg 1) (1 : Int32).toNatClampNeg 1) (2 : Int32).toNatClampNeg 4) (3 : Int32).toNatClampNeg 4) (4 : Int32).toNatClampNeg 3) (5 : Int32).toNatClampNeg 1) (6 : Int32).toNatClampNeg 1) (7 : Int32).toNatClampNeg 1) (8 : Int32).toNatClampNeg 1) (9 : Int32).toNatClampNeg 1) (10 : Int32).toNatClampNeg 1) (11 : Int32).toNatClampNeg 1) (12 : Int32).toNatClampNeg 1) = mPr0 := by
  funext k
  by_cases hk : k < 13
  · (rcases (show k = 0 ∨ k = 1 ∨ k = 2 ∨ k = 3 ∨ k = 4 ∨ k = 5 ∨ k = 6 ∨ k = 7 ∨ k = 8 ∨ k = 9 ∨ k = 10 ∨ k = 11 ∨ k = 12 by omega) with rfl | rfl | rfl | rfl | rfl | rfl | rfl | rfl | rfl | rfl | rfl | rfl | rfl) <;> rfl
  · have h13 : mPr0 k = 0 := by
      unfold mPr0
      rw [List.getD_eq_getElem?_getD, List.getElem?_eq_none (show ([1, 1, 4, 4, 3, 1, 1, 1, 1, 1, 1, 1, 1] : List Int32).length ≤ k from Nat.not_lt.mp hk)]
      rfl
    rw [h13]
    rw [pk_un (show k ≠ (12 : Int32).toNatClampNeg from fun e => hk (by rw [e]; decide))]
    rw [pk_un (show k ≠ (11 : Int32).toNatClampNeg from fun e => hk (by rw [e]; decide))]
    rw [pk_un (show k ≠ (10 : Int32).toNatClampNeg from fun e => hk (by rw [e]; decide))]
    rw [pk_un (show k ≠ (9 : Int32).toNatClampNeg from fun e => hk (by rw [e]; decide))]
    rw [pk_un (show k ≠ (8 : Int32).toNatClampNeg from fun e => hk (by rw [e]; decide))]
    rw [pk_un (show k ≠ (7 : Int32).toNatClampNeg from fun e => hk (by rw [e]; decide))]
    rw [pk_un (show k ≠ (6 : Int32).toNatClampNeg from fun e => hk (by rw [e]; decide))]
    rw [pk_un (show k ≠ (5 : Int32).toNatClampNeg from fun e => hk (by rw [e]; decide))]
    rw [pk_un (show k ≠ (4 : Int32).toNatClampNeg from fun e => hk (by rw [e]; decide))]
    rw [pk_un (show k ≠ (3 : Int32).toNatClampNeg from fun e => hk (by rw [e]; decide))]
    rw [pk_un (show k ≠ (2 : Int32).toNatClampNeg from fun e => hk (by rw [e]; decide))]
    rw [pk_un (show k ≠ (1 : Int32).toNatClampNeg from fun e => hk (by rw [e]; decide))]
    rw [pk_un (show k ≠ (0 : Int32).toNatClampNeg from fun e => hk (by rw [e]; decide))]
theorem gAi_eq {f : Nat → Int32} (h : f = mPr0) : gAi 13 f = mC0 8 := by
  rw [h]
  rfl
section CMinit
variable {l : Launch} {o : Nat}
def miP (o : Nat) : Option Value → gH → Prop := pV fun σ' => ∃ a, Mm σ' o a mS0
theorem mi_25 {σ : gH} {a : Nat → Nat} (hP : PM σ o a 40) : G l mX11_init 1 0 0 (miP o) σ 263 [some (.ref o)] [] := by
  refine g_vret dX11_init_263 rfl ?_
  exact ⟨rfl, a, hP.Mm⟩
theorem mi_24 {σ : gH} {a : Nat → Nat} (hP : PM σ o a 37) : G l mX11_init 1 1 3 (miP o) σ 256 [some (.ref o)] [] := by
  refine g_aload_n (i := 0) dX11_init_256 rfl rfl ?_
  refine g_iconst (v := 3) dX11_init_257 (by decide) ?_
  refine g_newl dX11_init_258 ac_long (by decide) rfl (by decide) (by decide) (by decide) (fun zq258 zhq258 => ?_)
  refine g_putF (fs' := pfs (va_up a 37 zq258) 38) dX11_init_260 flX11_84 fp9_37 rfl rfl (hP.oq zhq258) rfl rfl (Nat.le_of_ble_eq_true rfl) rfl fLX11_84 ?_
  obtain ⟨a, hP⟩ := hP.add zhq258 (c := _) (n := 37) rfl
  have hP := hP.sk (m := 40) (fun j h1 h2 => by (rcases (show j = 38 ∨ j = 39 by omega) with rfl | rfl) <;> rfl) rfl
  exact mi_25 hP
theorem mi_23 {σ : gH} {a : Nat → Nat} (hP : PM σ o a 36) : G l mX11_init 1 2 6 (miP o) σ 249 [some (.ref o)] [] := by
  refine g_aload_n (i := 0) dX11_init_249 rfl rfl ?_
  refine g_iconst (v := 3) dX11_init_250 (by decide) ?_
  refine g_newi dX11_init_251 ac_int (by decide) rfl (by decide) (by decide) (by decide) (fun zq251 zhq251 => ?_)
  refine g_putF (fs' := pfs (va_up a 36 zq251) 37) dX11_init_253 flX11_81 fp9_36 rfl rfl (hP.oq zhq251) rfl rfl (Nat.le_of_ble_eq_true rfl) rfl fLX11_81 ?_
  obtain ⟨a, hP⟩ := hP.add zhq251 (c := _) (n := 36) rfl
  exact mi_24 hP
theorem mi_22 {σ : gH} {a : Nat → Nat} (hP : PM σ o a 35) : G l mX11_init 1 3 9 (miP o) σ 242 [some (.ref o)] [] := by
  refine g_aload_n (i := 0) dX11_init_242 rfl rfl ?_
  refine g_iconst (v := 3) dX11_init_243 (by decide) ?_
  refine g_newi dX11_init_244 ac_int (by decide) rfl (by decide) (by decide) (by decide) (fun zq244 zhq244 => ?_)
  refine g_putF (fs' := pfs (va_up a 35 zq244) 36) dX11_init_246 flX11_78 fp9_35 rfl rfl (hP.oq zhq244) rfl rfl (Nat.le_of_ble_eq_true rfl) rfl fLX11_78 ?_
  obtain ⟨a, hP⟩ := hP.add zhq244 (c := _) (n := 35) rfl
  exact mi_23 hP
theorem mi_21 {σ : gH} {a : Nat → Nat} (hP : PM σ o a 34) : G l mX11_init 1 4 12 (miP o) σ 235 [some (.ref o)] [] := by
  refine g_aload_n (i := 0) dX11_init_235 rfl rfl ?_
  refine g_iconst (v := 3) dX11_init_236 (by decide) ?_
  refine g_newi dX11_init_237 ac_int (by decide) rfl (by decide) (by decide) (by decide) (fun zq237 zhq237 => ?_)
  refine g_putF (fs' := pfs (va_up a 34 zq237) 35) dX11_init_239 flX11_75 fp9_34 rfl rfl (hP.oq zhq237) rfl rfl (Nat.le_of_ble_eq_true rfl) rfl fLX11_75 ?_
  obtain ⟨a, hP⟩ := hP.add zhq237 (c := _) (n := 34) rfl
  exact mi_22 hP
theorem mi_20 {σ : gH} {a : Nat → Nat} (hP : PM σ o a 33) : G l mX11_init 1 5 15 (miP o) σ 228 [some (.ref o)] [] := by
  refine g_aload_n (i := 0) dX11_init_228 rfl rfl ?_
  refine g_iconst (v := 3) dX11_init_229 (by decide) ?_
  refine g_newi dX11_init_230 ac_int (by decide) rfl (by decide) (by decide) (by decide) (fun zq230 zhq230 => ?_)
  refine g_putF (fs' := pfs (va_up a 33 zq230) 34) dX11_init_232 flX11_72 fp9_33 rfl rfl (hP.oq zhq230) rfl rfl (Nat.le_of_ble_eq_true rfl) rfl fLX11_72 ?_
  obtain ⟨a, hP⟩ := hP.add zhq230 (c := _) (n := 33) rfl
  exact mi_21 hP
theorem mi_19 {σ : gH} {a : Nat → Nat} (hP : PM σ o a 32) : G l mX11_init 1 6 18 (miP o) σ 221 [some (.ref o)] [] := by
  refine g_aload_n (i := 0) dX11_init_221 rfl rfl ?_
  refine g_iconst (v := 3) dX11_init_222 (by decide) ?_
  refine g_newi dX11_init_223 ac_int (by decide) rfl (by decide) (by decide) (by decide) (fun zq223 zhq223 => ?_)
  refine g_putF (fs' := pfs (va_up a 32 zq223) 33) dX11_init_225 flX11_69 fp9_32 rfl rfl (hP.oq zhq223) rfl rfl (Nat.le_of_ble_eq_true rfl) rfl fLX11_69 ?_
  obtain ⟨a, hP⟩ := hP.add zhq223 (c := _) (n := 32) rfl
  exact mi_20 hP
theorem mi_18 {σ : gH} {a : Nat → Nat} (hP : PM σ o a 31) : G l mX11_init 1 7 274 (miP o) σ 212 [some (.ref o)] [] := by
  refine g_aload_n (i := 0) dX11_init_212 rfl rfl ?_
  refine g_sipush (v := 256) dX11_init_213 (by decide) ?_
  refine g_newz dX11_init_216 ac_boolean (by decide) rfl (by decide) (by decide) (by decide) (fun zq216 zhq216 => ?_)
  refine g_putF (fs' := pfs (va_up a 31 zq216) 32) dX11_init_218 flX11_65 fp9_31 rfl rfl (hP.oq zhq216) rfl rfl (Nat.le_of_ble_eq_true rfl) rfl fLX11_65 ?_
  obtain ⟨a, hP⟩ := hP.add zhq216 (c := _) (n := 31) rfl
  exact mi_19 hP
theorem mi_17 {σ : gH} {a : Nat → Nat} (hP : PM σ o a 30) : G l mX11_init 1 8 530 (miP o) σ 203 [some (.ref o)] [] := by
  refine g_aload_n (i := 0) dX11_init_203 rfl rfl ?_
  refine g_sipush (v := 256) dX11_init_204 (by decide) ?_
  refine g_newi dX11_init_207 ac_int (by decide) rfl (by decide) (by decide) (by decide) (fun zq207 zhq207 => ?_)
  refine g_putF (fs' := pfs (va_up a 30 zq207) 31) dX11_init_209 flX11_62 fp9_30 rfl rfl (hP.oq zhq207) rfl rfl (Nat.le_of_ble_eq_true rfl) rfl fLX11_62 ?_
  obtain ⟨a, hP⟩ := hP.add zhq207 (c := _) (n := 30) rfl
  exact mi_18 hP
theorem mi_16 {σ : gH} {a : Nat → Nat} (hP : PM σ o a 29) : G l mX11_init 1 9 1554 (miP o) σ 194 [some (.ref o)] [] := by
  refine g_aload_n (i := 0) dX11_init_194 rfl rfl ?_
  refine g_sipush (v := 1024) dX11_init_195 (by decide) ?_
  refine g_newi dX11_init_198 ac_int (by decide) rfl (by decide) (by decide) (by decide) (fun zq198 zhq198 => ?_)
  refine g_putF (fs' := pfs (va_up a 29 zq198) 30) dX11_init_200 flX11_59 fp9_29 rfl rfl (hP.oq zhq198) rfl rfl (Nat.le_of_ble_eq_true rfl) rfl fLX11_59 ?_
  obtain ⟨a, hP⟩ := hP.add zhq198 (c := _) (n := 29) rfl
  exact mi_17 hP
theorem mi_15 {σ : gH} {a : Nat → Nat} (hP : PM σ o a 27) : G l mX11_init 1 10 1558 (miP o) σ 187 [some (.ref o)] [] := by
  refine g_aload_n (i := 0) dX11_init_187 rfl rfl ?_
  refine g_iconst (v := 4) dX11_init_188 (by decide) ?_
  refine g_newl dX11_init_189 ac_long (by decide) rfl (by decide) (by decide) (by decide) (fun zq189 zhq189 => ?_)
  refine g_putF (fs' := pfs (va_up a 27 zq189) 28) dX11_init_191 flX11_56 fp9_27 rfl rfl (hP.oq zhq189) rfl rfl (Nat.le_of_ble_eq_true rfl) rfl fLX11_56 ?_
  obtain ⟨a, hP⟩ := hP.add zhq189 (c := _) (n := 27) rfl
  have hP := hP.sk (m := 29) (fun j h1 h2 => by (rcases (show j = 28 by omega) with rfl) <;> rfl) rfl
  exact mi_16 hP
theorem mi_14 {σ : gH} {a : Nat → Nat} (hP : PM σ o a 26) : G l mX11_init 1 11 1566 (miP o) σ 179 [some (.ref o)] [] := by
  refine g_aload_n (i := 0) dX11_init_179 rfl rfl ?_
  refine g_bipush (v := 8) dX11_init_180 (by decide) ?_
  refine g_newl dX11_init_182 ac_long (by decide) rfl (by decide) (by decide) (by decide) (fun zq182 zhq182 => ?_)
  refine g_putF (fs' := pfs (va_up a 26 zq182) 27) dX11_init_184 flX11_53 fp9_26 rfl rfl (hP.oq zhq182) rfl rfl (Nat.le_of_ble_eq_true rfl) rfl fLX11_53 ?_
  obtain ⟨a, hP⟩ := hP.add zhq182 (c := _) (n := 26) rfl
  exact mi_15 hP
theorem mi_13 {σ : gH} {a : Nat → Nat} (hP : PM σ o a 17) : G l mX11_init 1 12 7366 (miP o) σ 170 [some (.ref o)] [] := by
  refine g_aload_n (i := 0) dX11_init_170 rfl rfl ?_
  refine g_sipush (v := 5800) dX11_init_171 (by decide) ?_
  refine g_newl dX11_init_174 ac_long (by decide) rfl (by decide) (by decide) (by decide) (fun zq174 zhq174 => ?_)
  refine g_putF (fs' := pfs (va_up a 17 zq174) 18) dX11_init_176 flX11_50 fp9_17 rfl rfl (hP.oq zhq174) rfl rfl (Nat.le_of_ble_eq_true rfl) rfl fLX11_50 ?_
  obtain ⟨a, hP⟩ := hP.add zhq174 (c := _) (n := 17) rfl
  have hP := hP.sk (m := 26) (fun j h1 h2 => by (rcases (show j = 18 ∨ j = 19 ∨ j = 20 ∨ j = 21 ∨ j = 22 ∨ j = 23 ∨ j = 24 ∨ j = 25 by omega) with rfl | rfl | rfl | rfl | rfl | rfl | rfl | rfl) <;> rfl) rfl
  exact mi_14 hP
theorem mi_12 {σ : gH} {a : Nat → Nat} (hP : PM σ o a 16) : G l mX11_init 1 13 7424 (miP o) σ 162 [some (.ref o)] [] := by
  refine g_aload_n (i := 0) dX11_init_162 rfl rfl ?_
  refine g_bipush (v := 58) dX11_init_163 (by decide) ?_
  refine g_newi dX11_init_165 ac_int (by decide) rfl (by decide) (by decide) (by decide) (fun zq165 zhq165 => ?_)
  refine g_putF (fs' := pfs (va_up a 16 zq165) 17) dX11_init_167 flX11_47 fp9_16 rfl rfl (hP.oq zhq165) rfl rfl (Nat.le_of_ble_eq_true rfl) rfl fLX11_47 ?_
  obtain ⟨a, hP⟩ := hP.add zhq165 (c := _) (n := 16) rfl
  exact mi_13 hP
theorem mi_11 {σ : gH} {a : Nat → Nat} (hP : PM σ o a 15) : G l mX11_init 1 14 7482 (miP o) σ 154 [some (.ref o)] [] := by
  refine g_aload_n (i := 0) dX11_init_154 rfl rfl ?_
  refine g_bipush (v := 58) dX11_init_155 (by decide) ?_
  refine g_newi dX11_init_157 ac_int (by decide) rfl (by decide) (by decide) (by decide) (fun zq157 zhq157 => ?_)
  refine g_putF (fs' := pfs (va_up a 15 zq157) 16) dX11_init_159 flX11_44 fp9_15 rfl rfl (hP.oq zhq157) rfl rfl (Nat.le_of_ble_eq_true rfl) rfl fLX11_44 ?_
  obtain ⟨a, hP⟩ := hP.add zhq157 (c := _) (n := 15) rfl
  exact mi_12 hP
theorem mi_10 {σ : gH} {a : Nat → Nat} (hP : PM σ o a 14) : G l mX11_init 1 15 7532 (miP o) σ 146 [some (.ref o)] [] := by
  refine g_aload_n (i := 0) dX11_init_146 rfl rfl ?_
  refine g_bipush (v := 50) dX11_init_147 (by decide) ?_
  refine g_newl dX11_init_149 ac_long (by decide) rfl (by decide) (by decide) (by decide) (fun zq149 zhq149 => ?_)
  refine g_putF (fs' := pfs (va_up a 14 zq149) 15) dX11_init_151 flX11_41 fp9_14 rfl rfl (hP.oq zhq149) rfl rfl (Nat.le_of_ble_eq_true rfl) rfl fLX11_41 ?_
  obtain ⟨a, hP⟩ := hP.add zhq149 (c := _) (n := 14) rfl
  exact mi_11 hP
theorem mi_9 {σ : gH} {a : Nat → Nat} (hP : PM σ o a 13) : G l mX11_init 1 16 7582 (miP o) σ 138 [some (.ref o)] [] := by
  refine g_aload_n (i := 0) dX11_init_138 rfl rfl ?_
  refine g_bipush (v := 50) dX11_init_139 (by decide) ?_
  refine g_newi dX11_init_141 ac_int (by decide) rfl (by decide) (by decide) (by decide) (fun zq141 zhq141 => ?_)
  refine g_putF (fs' := pfs (va_up a 13 zq141) 14) dX11_init_143 flX11_38 fp9_13 rfl rfl (hP.oq zhq141) rfl rfl (Nat.le_of_ble_eq_true rfl) rfl fLX11_38 ?_
  obtain ⟨a, hP⟩ := hP.add zhq141 (c := _) (n := 13) rfl
  exact mi_10 hP
theorem mi_8 {σ : gH} {a : Nat → Nat} (hP : PM σ o a 12) : G l mX11_init 1 17 7632 (miP o) σ 130 [some (.ref o)] [] := by
  refine g_aload_n (i := 0) dX11_init_130 rfl rfl ?_
  refine g_bipush (v := 50) dX11_init_131 (by decide) ?_
  refine g_newi dX11_init_133 ac_int (by decide) rfl (by decide) (by decide) (by decide) (fun zq133 zhq133 => ?_)
  refine g_putF (fs' := pfs (va_up a 12 zq133) 13) dX11_init_135 flX11_35 fp9_12 rfl rfl (hP.oq zhq133) rfl rfl (Nat.le_of_ble_eq_true rfl) rfl fLX11_35 ?_
  obtain ⟨a, hP⟩ := hP.add zhq133 (c := _) (n := 12) rfl
  exact mi_9 hP
theorem mi_7 {σ : gH} {a : Nat → Nat} (hP : PM σ o a 11) : G l mX11_init 1 18 7682 (miP o) σ 122 [some (.ref o)] [] := by
  refine g_aload_n (i := 0) dX11_init_122 rfl rfl ?_
  refine g_bipush (v := 50) dX11_init_123 (by decide) ?_
  refine g_newi dX11_init_125 ac_int (by decide) rfl (by decide) (by decide) (by decide) (fun zq125 zhq125 => ?_)
  refine g_putF (fs' := pfs (va_up a 11 zq125) 12) dX11_init_127 flX11_32 fp9_11 rfl rfl (hP.oq zhq125) rfl rfl (Nat.le_of_ble_eq_true rfl) rfl fLX11_32 ?_
  obtain ⟨a, hP⟩ := hP.add zhq125 (c := _) (n := 11) rfl
  exact mi_8 hP
theorem mi_6 {σ : gH} {a : Nat → Nat} (hP : PM σ o a 9) : G l mX11_init 1 19 7695 (miP o) σ 114 [some (.ref o)] [] := by
  refine g_aload_n (i := 0) dX11_init_114 rfl rfl ?_
  refine g_bipush (v := 13) dX11_init_115 (by decide) ?_
  refine g_newl dX11_init_117 ac_long (by decide) rfl (by decide) (by decide) (by decide) (fun zq117 zhq117 => ?_)
  refine g_putF (fs' := pfs (va_up a 9 zq117) 10) dX11_init_119 flX11_29 fp9_9 rfl rfl (hP.oq zhq117) rfl rfl (Nat.le_of_ble_eq_true rfl) rfl fLX11_29 ?_
  obtain ⟨a, hP⟩ := hP.add zhq117 (c := _) (n := 9) rfl
  have hP := hP.sk (m := 11) (fun j h1 h2 => by (rcases (show j = 10 by omega) with rfl) <;> rfl) rfl
  exact mi_7 hP
theorem mi_5 {σ : gH} {a : Nat → Nat} (hP : PM σ o a 8) : G l mX11_init 1 20 7708 (miP o) σ 47 [some (.ref o)] [] := by
  refine g_aload_n (i := 0) dX11_init_47 rfl rfl ?_
  refine g_bipush (v := 13) dX11_init_48 (by decide) ?_
  refine g_newi dX11_init_50 ac_int (by decide) rfl (by decide) (by decide) (by decide) (fun zq50 zhq50 => ?_)
  refine g_dup dX11_init_52 rfl ?_
  refine g_iconst (v := 0) dX11_init_53 (by decide) ?_
  refine g_iconst (v := 1) dX11_init_54 (by decide) ?_
  refine g_iast dX11_init_55 (su_self _ _ _) (vp_in_nI (n := _) (N := 13) (by decide) (by decide)) ?_
  rw [su_su]
  refine g_dup dX11_init_56 rfl ?_
  refine g_iconst (v := 1) dX11_init_57 (by decide) ?_
  refine g_iconst (v := 1) dX11_init_58 (by decide) ?_
  refine g_iast dX11_init_59 (su_self _ _ _) (vp_in_nI (n := _) (N := 13) (by decide) (by decide)) ?_
  rw [su_su]
  refine g_dup dX11_init_60 rfl ?_
  refine g_iconst (v := 2) dX11_init_61 (by decide) ?_
  refine g_iconst (v := 4) dX11_init_62 (by decide) ?_
  refine g_iast dX11_init_63 (su_self _ _ _) (vp_in_nI (n := _) (N := 13) (by decide) (by decide)) ?_
  rw [su_su]
  refine g_dup dX11_init_64 rfl ?_
  refine g_iconst (v := 3) dX11_init_65 (by decide) ?_
  refine g_iconst (v := 4) dX11_init_66 (by decide) ?_
  refine g_iast dX11_init_67 (su_self _ _ _) (vp_in_nI (n := _) (N := 13) (by decide) (by decide)) ?_
  rw [su_su]
  refine g_dup dX11_init_68 rfl ?_
  refine g_iconst (v := 4) dX11_init_69 (by decide) ?_
  refine g_iconst (v := 3) dX11_init_70 (by decide) ?_
  refine g_iast dX11_init_71 (su_self _ _ _) (vp_in_nI (n := _) (N := 13) (by decide) (by decide)) ?_
  rw [su_su]
  refine g_dup dX11_init_72 rfl ?_
  refine g_iconst (v := 5) dX11_init_73 (by decide) ?_
  refine g_iconst (v := 1) dX11_init_74 (by decide) ?_
  refine g_iast dX11_init_75 (su_self _ _ _) (vp_in_nI (n := _) (N := 13) (by decide) (by decide)) ?_
  rw [su_su]
  refine g_dup dX11_init_76 rfl ?_
  refine g_bipush (v := 6) dX11_init_77 (by decide) ?_
  refine g_iconst (v := 1) dX11_init_79 (by decide) ?_
  refine g_iast dX11_init_80 (su_self _ _ _) (vp_in_nI (n := _) (N := 13) (by decide) (by decide)) ?_
  rw [su_su]
  refine g_dup dX11_init_81 rfl ?_
  refine g_bipush (v := 7) dX11_init_82 (by decide) ?_
  refine g_iconst (v := 1) dX11_init_84 (by decide) ?_
  refine g_iast dX11_init_85 (su_self _ _ _) (vp_in_nI (n := _) (N := 13) (by decide) (by decide)) ?_
  rw [su_su]
  refine g_dup dX11_init_86 rfl ?_
  refine g_bipush (v := 8) dX11_init_87 (by decide) ?_
  refine g_iconst (v := 1) dX11_init_89 (by decide) ?_
  refine g_iast dX11_init_90 (su_self _ _ _) (vp_in_nI (n := _) (N := 13) (by decide) (by decide)) ?_
  rw [su_su]
  refine g_dup dX11_init_91 rfl ?_
  refine g_bipush (v := 9) dX11_init_92 (by decide) ?_
  refine g_iconst (v := 1) dX11_init_94 (by decide) ?_
  refine g_iast dX11_init_95 (su_self _ _ _) (vp_in_nI (n := _) (N := 13) (by decide) (by decide)) ?_
  rw [su_su]
  refine g_dup dX11_init_96 rfl ?_
  refine g_bipush (v := 10) dX11_init_97 (by decide) ?_
  refine g_iconst (v := 1) dX11_init_99 (by decide) ?_
  refine g_iast dX11_init_100 (su_self _ _ _) (vp_in_nI (n := _) (N := 13) (by decide) (by decide)) ?_
  rw [su_su]
  refine g_dup dX11_init_101 rfl ?_
  refine g_bipush (v := 11) dX11_init_102 (by decide) ?_
  refine g_iconst (v := 1) dX11_init_104 (by decide) ?_
  refine g_iast dX11_init_105 (su_self _ _ _) (vp_in_nI (n := _) (N := 13) (by decide) (by decide)) ?_
  rw [su_su]
  refine g_dup dX11_init_106 rfl ?_
  refine g_bipush (v := 12) dX11_init_107 (by decide) ?_
  refine g_iconst (v := 1) dX11_init_109 (by decide) ?_
  refine g_iast dX11_init_110 (su_self _ _ _) (vp_in_nI (n := _) (N := 13) (by decide) (by decide)) ?_
  rw [su_su]
  refine g_putF (fs' := pfs (va_up a 8 zq50) 9) dX11_init_111 flX11_26 fp9_8 rfl rfl (hP.oq zhq50) rfl rfl (Nat.le_of_ble_eq_true rfl) rfl fLX11_26 ?_
  have hc := gAi_eq mPr0_eq
  obtain ⟨a, hP⟩ := hP.add zhq50 hc
  exact mi_6 hP
theorem mi_4 {σ : gH} {a : Nat → Nat} (hP : PM σ o a 7) : G l mX11_init 1 21 8428 (miP o) σ 38 [some (.ref o)] [] := by
  refine g_aload_n (i := 0) dX11_init_38 rfl rfl ?_
  refine g_sipush (v := 720) dX11_init_39 (by decide) ?_
  refine g_newl dX11_init_42 ac_long (by decide) rfl (by decide) (by decide) (by decide) (fun zq42 zhq42 => ?_)
  refine g_putF (fs' := pfs (va_up a 7 zq42) 8) dX11_init_44 flX11_22 fp9_7 rfl rfl (hP.oq zhq42) rfl rfl (Nat.le_of_ble_eq_true rfl) rfl fLX11_22 ?_
  obtain ⟨a, hP⟩ := hP.add zhq42 (c := _) (n := 7) rfl
  exact mi_5 hP
theorem mi_3 {σ : gH} {a : Nat → Nat} (hP : PM σ o a 6) : G l mX11_init 1 22 9148 (miP o) σ 29 [some (.ref o)] [] := by
  refine g_aload_n (i := 0) dX11_init_29 rfl rfl ?_
  refine g_sipush (v := 720) dX11_init_30 (by decide) ?_
  refine g_newi dX11_init_33 ac_int (by decide) rfl (by decide) (by decide) (by decide) (fun zq33 zhq33 => ?_)
  refine g_putF (fs' := pfs (va_up a 6 zq33) 7) dX11_init_35 flX11_19 fp9_6 rfl rfl (hP.oq zhq33) rfl rfl (Nat.le_of_ble_eq_true rfl) rfl fLX11_19 ?_
  obtain ⟨a, hP⟩ := hP.add zhq33 (c := _) (n := 6) rfl
  exact mi_4 hP
theorem mi_2 {σ : gH} {a : Nat → Nat} (hP : PM σ o a 5) : G l mX11_init 1 23 9868 (miP o) σ 20 [some (.ref o)] [] := by
  refine g_aload_n (i := 0) dX11_init_20 rfl rfl ?_
  refine g_sipush (v := 720) dX11_init_21 (by decide) ?_
  refine g_newi dX11_init_24 ac_int (by decide) rfl (by decide) (by decide) (by decide) (fun zq24 zhq24 => ?_)
  refine g_putF (fs' := pfs (va_up a 5 zq24) 6) dX11_init_26 flX11_16 fp9_5 rfl rfl (hP.oq zhq24) rfl rfl (Nat.le_of_ble_eq_true rfl) rfl fLX11_16 ?_
  obtain ⟨a, hP⟩ := hP.add zhq24 (c := _) (n := 5) rfl
  exact mi_3 hP
theorem mi_1 {σ : gH} {a : Nat → Nat} (hP : PM σ o a 4) : G l mX11_init 1 24 9928 (miP o) σ 12 [some (.ref o)] [] := by
  refine g_aload_n (i := 0) dX11_init_12 rfl rfl ?_
  refine g_bipush (v := 60) dX11_init_13 (by decide) ?_
  refine g_newi dX11_init_15 ac_int (by decide) rfl (by decide) (by decide) (by decide) (fun zq15 zhq15 => ?_)
  refine g_putF (fs' := pfs (va_up a 4 zq15) 5) dX11_init_17 flX11_13 fp9_4 rfl rfl (hP.oq zhq15) rfl rfl (Nat.le_of_ble_eq_true rfl) rfl fLX11_13 ?_
  obtain ⟨a, hP⟩ := hP.add zhq15 (c := _) (n := 4) rfl
  exact mi_2 hP
theorem mi_0 {σ : gH} {a : Nat → Nat} (hP : PM σ o a 3) : G l mX11_init 1 25 9988 (miP o) σ 4 [some (.ref o)] [] := by
  refine g_aload_n (i := 0) dX11_init_4 rfl rfl ?_
  refine g_bipush (v := 60) dX11_init_5 (by decide) ?_
  refine g_newi dX11_init_7 ac_int (by decide) rfl (by decide) (by decide) (by decide) (fun zq7 zhq7 => ?_)
  refine g_putF (fs' := pfs (va_up a 3 zq7) 4) dX11_init_9 flX11_7 fp9_3 rfl rfl (hP.oq zhq7) rfl rfl (Nat.le_of_ble_eq_true rfl) rfl fLX11_7 ?_
  obtain ⟨a, hP⟩ := hP.add zhq7 (c := _) (n := 3) rfl
  exact mi_1 hP
theorem c_X11_init {σ : gH} (h0 : σ o = some (gO 9 [.int 0, .long 0, .int 0, .null, .null, .null, .null, .null, .null, .null, .int 0, .null, .null, .null, .null, .null, .null, .null, .long 0, .int 0, .long 0, .long 0, .int 0, .int 0, .long 0, .int 0, .null, .null, .int 0, .null, .null, .null, .null, .null, .null, .null, .null, .null, .int 0, .int 0])) : Ct l mX11_init 1 25 9988 [.ref o] σ (pV fun σ' => ∃ a, Mm σ' o a mS0) := by
  have hP : PM σ o (fun _ => 0) 3 := ⟨h0, fun k hk hm => absurd (by (rcases (show k = 0 ∨ k = 1 ∨ k = 2 by omega) with rfl | rfl | rfl) <;> rfl) hm, fun j k hj hk mj mk e => absurd (by (rcases (show j = 0 ∨ j = 1 ∨ j = 2 by omega) with rfl | rfl | rfl) <;> rfl) mj⟩
  refine Ct_of moX11_init [some (.ref o)] rfl (Nat.le_of_ble_eq_true rfl) ?_
  refine g_aload_n (i := 0) dX11_init_0 rfl rfl ?_
  refine g_objInit dX11_init_1 lkX11_1 oi_inst oi_code (by decide) (Nat.le_of_ble_eq_true rfl) ?_
  exact mi_0 hP
end CMinit
