/-! the reference: check() itself -/
def scI (X k : Nat) (hg on : Int32) : Prop := (X % 2 ^ k = 0 ∧ hg = -1 ∧ on = 0) ∨ ∃ t c : Nat, t < k ∧ hg = nI t ∧ 2 ^ t ≤ X % 2 ^ k ∧ X % 2 ^ k < 2 ^ (t + 1) ∧ on = nI c ∧ 1 ≤ c ∧ c ≤ k ∧ (c = 1 ↔ X % 2 ^ k = 2 ^ t)
theorem tb_mod (X k : Nat) : X % 2 ^ (k + 1) = X % 2 ^ k + (if Nat.testBit X k = true then 2 ^ k else 0) := by
  rw [Nat.mod_pow_succ, Nat.testBit_eq_decide_div_mod_eq]
  rcases Nat.mod_two_eq_zero_or_one (X / 2 ^ k) with h | h
  · rw [h]; simp
  · rw [h]; simp
theorem scI_f {X k : Nat} {hg on : Int32} (h : scI X k hg on) (hb : Nat.testBit X k = false) : scI X (k + 1) hg on := by
  have e : X % 2 ^ (k + 1) = X % 2 ^ k := by
    rw [tb_mod, hb]; simp
  unfold scI at h ⊢
  rw [e]
  rcases h with h | ⟨t, c, h1, h2, h3, h4, h5, h6, h7, h8⟩
  · exact Or.inl h
  · exact Or.inr ⟨t, c, by omega, h2, h3, h4, h5, h6, by omega, h8⟩
theorem scI_t {X k : Nat} {hg on : Int32} (h : scI X k hg on) (hb : Nat.testBit X k = true) : scI X (k + 1) (nI k) (on + 1) := by
  have e : X % 2 ^ (k + 1) = X % 2 ^ k + 2 ^ k := by
    rw [tb_mod, hb]; simp
  have hlt : X % 2 ^ k < 2 ^ k := Nat.mod_lt _ (Nat.two_pow_pos k)
  have h2k : 2 ^ (k + 1) = 2 ^ k + 2 ^ k := by rw [Nat.pow_succ]; omega
  unfold scI at h ⊢
  rw [e]
  right
  rcases h with ⟨h1, h2, h3⟩ | ⟨t, c, h1, h2, h3, h4, h5, h6, h7, h8⟩
  · refine ⟨k, 1, by omega, rfl, by omega, by omega, by rw [h3]; rfl, by omega, by omega, ?_⟩
    constructor
    · intro _; omega
    · intro _; rfl
  · have hp := Nat.two_pow_pos t
    refine ⟨k, c + 1, by omega, rfl, by omega, by omega, by rw [h5, nI_1], by omega, by omega, ?_⟩
    constructor
    · intro z; omega
    · intro z; omega
theorem scI_end {X s : Nat} (hs : s ≤ 64) {hg on : Int32} (h : scI X 200 hg on) (hX : X < 2 ^ 200) : (hg < nI s ∨ (hg = nI s ∧ on = 1)) ↔ X ≤ 2 ^ s := by
  have e : X % 2 ^ 200 = X := Nat.mod_eq_of_lt hX
  unfold scI at h
  rw [e] at h
  rcases h with ⟨h1, h2, h3⟩ | ⟨t, c, h1, h2, h3, h4, h5, h6, h7, h8⟩
  · constructor
    · intro _; rw [h1]; exact Nat.zero_le _
    · intro _
      left
      rw [h2, Int32.lt_iff_toInt_lt, nI_toInt (by omega), show (-1 : Int32).toInt = -1 from by decide]
      omega
  · rw [h2, h5, nI_ltI (by omega) (by omega), nI_eq (by omega) (by omega), show (nI c = 1 ↔ c = 1) from nI_eq (b := 1) (by omega) (by decide), h8]
    rcases Nat.lt_trichotomy t s with q | q | q
    · have : 2 ^ (t + 1) ≤ 2 ^ s := Nat.pow_le_pow_right (by decide) (by omega)
      constructor
      · intro _; omega
      · intro _; exact Or.inl q
    · subst q
      constructor
      · rintro (z | z)
        · omega
        · omega
      · intro z
        right
        exact ⟨rfl, by omega⟩
    · have : 2 ^ (s + 1) ≤ 2 ^ t := Nat.pow_le_pow_right (by decide) (by omega)
      have h2s : 2 ^ (s + 1) = 2 ^ s + 2 ^ s := by rw [Nat.pow_succ]; omega
      have hp := Nat.two_pow_pos s
      constructor
      · rintro (z | z)
        · omega
        · omega
      · intro z; omega
def ckM (w : Int32) (d m : Int64) (ov : Int32) : Nat := (uN (mLow m w) + (if ov = 1 then 2 ^ w.toNatClampNeg else 0)) * uN (mLow d w)
def ckP (w : Int32) (d : Int64) (s : Int32) (m : Int64) (ov : Int32) : Prop := 2 ^ (w.toNatClampNeg + s.toNatClampNeg) ≤ ckM w d m ov ∧ ckM w d m ov ≤ 2 ^ (w.toNatClampNeg + s.toNatClampNeg) + 2 ^ s.toNatClampNeg
noncomputable def sCheck (w : Int32) (d : Int64) (s : Int32) (m : Int64) (ov : Int32) : Int32 := by
  classical
  exact if isW w ∧ (¬ s < 0 ∧ s ≤ w) ∧ (ov = 0 ∨ ov = 1) ∧ ¬ mLow d w = 0 then bI (ckP w d s m ov) else -1
theorem RepM.m26 {S : mS} {A : aA} (h : RepM S A) (f : Nat → Int64) : RepM (uJ S 26 f) A := h.of (fun _ _ => rfl) (fun _ _ => rfl) (fun k hk => by
  simp only [List.mem_cons, List.not_mem_nil, or_false] at hk
  rcases hk with rfl | rfl | rfl | rfl <;> rfl)
section CMcheck2
variable {l : Launch} {o : Nat} {ad : Nat → Nat} {S : mS} {post : Option Value → gH → Prop} {w s ov : Int32} {d m a b : Int64}
theorem l1_X11_check (kk : ∀ (σ' : gH) (h : Nat → Int64), Mm σ' o ad (uJ S 26 h) → (∀ j, j < 8 → h j = 0) → G l mX11_check 2 0 0 post σ' 80 [some (.ref o), some (.int w), some (.long d), none, some (.int s), some (.long m), none, some (.int ov), some (.long a), none, some (.long b), none, some (.int (nI 8)), none, none, none, none] []) :
    ∀ (n k : Nat) (h : Nat → Int64) (σ : gH), k + n = 8 → Mm σ o ad (uJ S 26 h) → (∀ j, j < k → h j = 0) → G l mX11_check 2 0 0 post σ 59 [some (.ref o), some (.int w), some (.long d), none, some (.int s), some (.long m), none, some (.int ov), some (.long a), none, some (.long b), none, some (.int (nI k)), none, none, none, none] [] := by
  intro n
  induction n with
  | zero =>
    intro k h σ hk hM h0
    obtain rfl : k = 8 := by omega
    refine g_iload dX11_check_59 rfl ?_
    refine g_bipush (v := 8) dX11_check_61 (by decide) ?_
    refine g_icmp_ge (tgt := 80) dX11_check_63 (by decide) (fun zc63 => ?_) (fun zc63 => ?_)
    · exact kk σ h hM h0
    · exact absurd (by decide) zc63
  | succ n ih =>
    intro k h σ hk hM h0
    have hck : (nI k).toNatClampNeg = k := nI_clamp (by omega)
    refine g_iload dX11_check_59 rfl ?_
    refine g_bipush (v := 8) dX11_check_61 (by decide) ?_
    refine g_icmp_ge (tgt := 80) dX11_check_63 (by decide) (fun zc63 => ?_) (fun zc63 => ?_)
    · exact absurd zc63 (nI_ge (b := 8) (by omega) (by decide))
    · refine g_aload_n (i := 0) dX11_check_66 rfl rfl ?_
      refine gm_get hM (k := 26) dX11_check_67 flX11_53 rfl ?_
      refine g_iload dX11_check_70 rfl ?_
      refine g_lconst (v := 0) dX11_check_72 (by decide) ?_
      refine gm_last hM dX11_check_73 rfl ((vp_in_nI (show k < 8 by omega) (by decide) : vp_in (nI k) 8)) (fun σ hM => ?_)
      refine g_iinc (v := _ + 1) (ls' := [_, _, _, _, _, _, _, _, _, _, _, _, _, _, _, _, _]) dX11_check_74 rfl rfl (by decide) rfl rfl ?_
      refine g_goto (tgt := 59) dX11_check_77 (by decide) ?_
      rw [hck, uJ_uJ] at hM
      refine g_cl (by rw [nI_1]) (ih (k + 1) (vp_updL h k 0) σ (by omega) hM (fun j hj => ?_))
      by_cases e : j = k
      · subst e; exact pk_uLs
      · rw [pk_uLn e]; exact h0 j (by omega)
theorem l2_X11_check {N P : Nat} (hN : N = 8 ∨ N = 16 ∨ N = 32 ∨ N = 64) (hP : P < 2 ^ 128) (hb : uN b < 2 ^ N) (x12 : Int64) (kk : ∀ (σ' : gH) (h : Nat → Int64) (v : Option Value), Mm σ' o ad (uJ S 26 h) → nrm h 8 → hv h = ((P + 2 ^ N * uN b : Nat) : Int) → G l mX11_check 2 0 0 post σ' 178 [some (.ref o), some (.int (nI N)), some (.long d), none, some (.int s), some (.long m), none, some (.int 1), some (.long a), none, some (.long b), none, some (.long x12), none, v, none, none] []) :
    ∀ (n k : Nat) (h : Nat → Int64) (σ : gH), k + n = 64 → Mm σ o ad (uJ S 26 h) → nrm h 8 → hv h = ((P + 2 ^ N * (uN b % 2 ^ k) : Nat) : Int) → G l mX11_check 2 0 0 post σ 144 [some (.ref o), some (.int (nI N)), some (.long d), none, some (.int s), some (.long m), none, some (.int 1), some (.long a), none, some (.long b), none, some (.long x12), none, some (.int (nI k)), none, none] [] := by
  have hN64 : N ≤ 64 := by omega
  intro n
  induction n with
  | zero =>
    intro k h σ hk hM hn hV
    obtain rfl : k = 64 := by omega
    rw [Nat.mod_eq_of_lt (uN_lt b)] at hV
    refine g_iload dX11_check_144 rfl ?_
    refine g_bipush (v := 64) dX11_check_146 (by decide) ?_
    refine g_icmp_ge (tgt := 178) dX11_check_148 (by decide) (fun zc148 => ?_) (fun zc148 => ?_)
    · exact kk σ h _ hM hn hV
    · exact absurd (by decide) zc148
  | succ n ih =>
    intro k h σ hk hM hn hV
    have hbit : gUshr b (nI k) &&& 1 = lN (uN b / 2 ^ k % 2) := by
      apply uN_inj
      rw [uN_and, uN_gUshr b (by omega), uN_lN (by omega), show uN 1 = 2 ^ 1 - 1 from by decide, Nat.and_two_pow_sub_one_eq_mod]
    have hms := Nat.mod_pow_succ (x := uN b) (b := 2) (k := k)
    have e1 : P + 2 ^ N * (uN b % 2 ^ (k + 1)) = P + 2 ^ N * (uN b % 2 ^ k) + uN b / 2 ^ k % 2 * 2 ^ (N + k) := by
      rw [hms, Nat.mul_add, Nat.pow_add, ← Nat.mul_assoc (2 ^ N) (2 ^ k), Nat.mul_comm (2 ^ N * 2 ^ k)]
      omega
    have e2 : P + 2 ^ N * (uN b % 2 ^ (k + 1)) < 2 ^ 129 := by
      have q1 : uN b % 2 ^ (k + 1) ≤ uN b := Nat.mod_le _ _
      have q2 : 2 ^ N * (uN b % 2 ^ (k + 1)) < 2 ^ N * 2 ^ N := Nat.mul_lt_mul_of_pos_left (Nat.lt_of_le_of_lt q1 hb) (Nat.two_pow_pos N)
      have q3 : 2 ^ N * 2 ^ N ≤ 2 ^ 128 := by rw [← Nat.pow_add]; exact Nat.pow_le_pow_right (by decide) (by omega)
      have q4 : 2 ^ 129 = 2 ^ 128 + 2 ^ 128 := by decide
      omega
    refine g_iload dX11_check_144 rfl ?_
    refine g_bipush (v := 64) dX11_check_146 (by decide) ?_
    refine g_icmp_ge (tgt := 178) dX11_check_148 (by decide) (fun zc148 => ?_) (fun zc148 => ?_)
    · exact absurd zc148 (nI_ge (b := 64) (by omega) (by decide))
    · refine g_iload dX11_check_151 rfl ?_
      refine g_iconst (v := 1) dX11_check_153 (by decide) ?_
      refine g_icmp_ne (tgt := 178) dX11_check_154 (by decide) (fun zc154 => ?_) (fun zc154 => ?_)
      · exact absurd rfl zc154
      · refine g_aload_n (i := 0) dX11_check_157 rfl rfl ?_
        refine g_lload dX11_check_158 rfl ?_
        refine g_iload dX11_check_160 rfl ?_
        refine g_lushr dX11_check_162 ?_
        refine g_lconst (v := 1) dX11_check_163 (by decide) ?_
        refine g_land dX11_check_164 ?_
        refine g_iload_n (i := 1) dX11_check_165 rfl rfl ?_
        refine g_iload dX11_check_166 rfl ?_
        refine g_iadd dX11_check_168 ?_
        rw [nI_add]
        refine g_callVv (My := mX11_addBit) [_, _] dX11_check_169 lkX11_251 mvX11_addBit rfl hM.1 rfl (c_X11_addBit hM hn (e := uN b / 2 ^ k % 2) (p := N + k) (by omega) hbit (by omega) (by rw [hV, ← Int.natCast_add, ← e1]; exact Int.ofNat_lt.mpr (Nat.lt_trans e2 (by decide)))) (by decide) (by decide) (by decide) rfl (Nat.le_of_ble_eq_true rfl) (fun σ zh169 => ?_)
        obtain ⟨h', hM, hn', hV'⟩ := zh169
        refine g_iinc (v := _ + 1) (ls' := [_, _, _, _, _, _, _, _, _, _, _, _, _, _, _, _, _]) dX11_check_172 rfl rfl (by decide) rfl rfl ?_
        refine g_goto (tgt := 144) dX11_check_175 (by decide) ?_
        refine g_cl (by rw [nI_1]) (ih (k + 1) h' σ (by omega) hM hn' ?_)
        rw [hV', hV, e1]
        exact (Int.natCast_add _ _).symm
theorem l3_X11_check {X sn : Nat} (hs : sn ≤ 64) {h : Nat → Int64} (hn : nrm h 7) (h7 : (h 7).toInt = 0) (hX : hv h = (X : Int)) (hX2 : X < 2 ^ 200) {σ : gH} (hM : Mm σ o ad (uJ S 26 h)) (x12 : Int64) (hp : post (some (.int (bI (X ≤ 2 ^ sn)))) σ) :
    ∀ (n k : Nat) (hg on : Int32), k + n = 200 → scI X k hg on → G l mX11_check 2 0 0 post σ 209 [some (.ref o), some (.int w), some (.long d), none, some (.int (nI sn)), some (.long m), none, some (.int ov), some (.long a), none, some (.long b), none, some (.long x12), none, some (.int hg), some (.int on), some (.int (nI k))] [] := by
  intro n
  induction n with
  | zero =>
    intro k hg on hk hI
    obtain rfl : k = 200 := by omega
    have he := scI_end hs hI hX2
    refine g_iload dX11_check_209 rfl ?_
    refine g_sipush (v := 200) dX11_check_211 (by decide) ?_
    refine g_icmp_ge (tgt := 256) dX11_check_214 (by decide) (fun zc214 => ?_) (fun zc214 => ?_)
    · refine g_iload dX11_check_256 rfl ?_
      refine g_iload dX11_check_258 rfl ?_
      refine g_icmp_lt (tgt := 276) dX11_check_260 (by decide) (fun zc260 => ?_) (fun zc260 => ?_)
      · refine g_iconst (v := 1) dX11_check_276 (by decide) ?_
        refine g_goto (tgt := 281) dX11_check_277 (by decide) ?_
        refine g_iret dX11_check_281 rfl ?_
        first
        | (rw [bI_t (he.mp (Or.inl zc260))] at hp; exact hp)
        | (rw [bI_t (he.mp (Or.inr ⟨zc267, zc273⟩))] at hp; exact hp)
        | (rw [bI_f (fun z => (he.mpr z).elim zc260 (fun q => zc267 q.1))] at hp; exact hp)
        | (rw [bI_f (fun z => (he.mpr z).elim zc260 (fun q => zc273 q.2))] at hp; exact hp)
      · refine g_iload dX11_check_263 rfl ?_
        refine g_iload dX11_check_265 rfl ?_
        refine g_icmp_ne (tgt := 280) dX11_check_267 (by decide) (fun zc267 => ?_) (fun zc267 => ?_)
        · refine g_iconst (v := 0) dX11_check_280 (by decide) ?_
          refine g_iret dX11_check_281 rfl ?_
          first
          | (rw [bI_t (he.mp (Or.inl zc260))] at hp; exact hp)
          | (rw [bI_t (he.mp (Or.inr ⟨zc267, zc273⟩))] at hp; exact hp)
          | (rw [bI_f (fun z => (he.mpr z).elim zc260 (fun q => zc267 q.1))] at hp; exact hp)
          | (rw [bI_f (fun z => (he.mpr z).elim zc260 (fun q => zc273 q.2))] at hp; exact hp)
        · refine g_iload dX11_check_270 rfl ?_
          refine g_iconst (v := 1) dX11_check_272 (by decide) ?_
          refine g_icmp_ne (tgt := 280) dX11_check_273 (by decide) (fun zc273 => ?_) (fun zc273 => ?_)
          · refine g_iconst (v := 0) dX11_check_280 (by decide) ?_
            refine g_iret dX11_check_281 rfl ?_
            first
            | (rw [bI_t (he.mp (Or.inl zc260))] at hp; exact hp)
            | (rw [bI_t (he.mp (Or.inr ⟨zc267, zc273⟩))] at hp; exact hp)
            | (rw [bI_f (fun z => (he.mpr z).elim zc260 (fun q => zc267 q.1))] at hp; exact hp)
            | (rw [bI_f (fun z => (he.mpr z).elim zc260 (fun q => zc273 q.2))] at hp; exact hp)
          · refine g_iconst (v := 1) dX11_check_276 (by decide) ?_
            refine g_goto (tgt := 281) dX11_check_277 (by decide) ?_
            refine g_iret dX11_check_281 rfl ?_
            first
            | (rw [bI_t (he.mp (Or.inl zc260))] at hp; exact hp)
            | (rw [bI_t (he.mp (Or.inr ⟨zc267, zc273⟩))] at hp; exact hp)
            | (rw [bI_f (fun z => (he.mpr z).elim zc260 (fun q => zc267 q.1))] at hp; exact hp)
            | (rw [bI_f (fun z => (he.mpr z).elim zc260 (fun q => zc273 q.2))] at hp; exact hp)
    · exact absurd (by decide) zc214
  | succ n ih =>
    intro k hg on hk hI
    have h32 : nI k / 32 = nI (k / 32) := pk_div (d := 32) (by omega) (by decide) (by decide)
    have hr32 : nI k - nI k / 32 * 32 = nI (k % 32) := pk_rem (d := 32) (by omega) (by decide) (by decide)
    have hIx : vp_in (nI (k / 32)) 8 := vp_in_nI (by omega) (by decide)
    have hck : (nI (k / 32)).toNatClampNeg = k / 32 := nI_clamp (by omega)
    have hb := hv_bit hn h7 hX (q := k / 32) (r := k % 32) (by omega) (by omega)
    rw [show 32 * (k / 32) + k % 32 = k by omega, Nat.testBit_eq_decide_div_mod_eq (x := uN (h (k / 32)))] at hb
    have hz : (gUshr (h (k / 32)) (nI (k % 32)) &&& 1 = 0) ↔ Nat.testBit X k = false := by
      rw [uN_bit, uN_gUshr _ (by omega), hb]
      simp only [decide_eq_false_iff_not]
      omega
    refine g_iload dX11_check_209 rfl ?_
    refine g_sipush (v := 200) dX11_check_211 (by decide) ?_
    refine g_icmp_ge (tgt := 256) dX11_check_214 (by decide) (fun zc214 => ?_) (fun zc214 => ?_)
    · exact absurd zc214 (nI_ge (b := 200) (by omega) (by decide))
    · refine g_aload_n (i := 0) dX11_check_217 rfl rfl ?_
      refine gm_get hM (k := 26) dX11_check_218 flX11_53 rfl ?_
      refine g_iload dX11_check_221 rfl ?_
      refine g_bipush (v := 32) dX11_check_223 (by decide) ?_
      refine g_idiv dX11_check_225 (by decide) ?_
      rw [h32]
      refine gm_lald hM dX11_check_226 rfl (hIx) ?_
      refine g_tol (h (k / 32)) (by rw [hck]; rfl) ?_
      refine g_iload dX11_check_227 rfl ?_
      refine g_bipush (v := 32) dX11_check_229 (by decide) ?_
      refine g_irem dX11_check_231 (by decide) ?_
      rw [hr32]
      refine g_lushr dX11_check_232 ?_
      refine g_lconst (v := 1) dX11_check_233 (by decide) ?_
      refine g_land dX11_check_234 ?_
      refine g_lconst (v := 0) dX11_check_235 (by decide) ?_
      refine g_lcmp dX11_check_236 ?_
      refine g_if_ne (tgt := 243) dX11_check_237 (by decide) (fun zc237 => ?_) (fun zc237 => ?_)
      · refine g_iload dX11_check_243 rfl ?_
        refine g_istore (ls' := [_, _, _, _, _, _, _, _, _, _, _, _, _, _, _, _, _]) dX11_check_245 (by decide) rfl rfl ?_
        refine g_iinc (v := _ + 1) (ls' := [_, _, _, _, _, _, _, _, _, _, _, _, _, _, _, _, _]) dX11_check_247 rfl rfl (by decide) rfl rfl ?_
        refine g_iinc (v := _ + 1) (ls' := [_, _, _, _, _, _, _, _, _, _, _, _, _, _, _, _, _]) dX11_check_250 rfl rfl (by decide) rfl rfl ?_
        refine g_goto (tgt := 209) dX11_check_253 (by decide) ?_
        rw [nI_1]
        first
        | exact ih (k + 1) _ _ (by omega) (scI_t hI (by have q := fun z => zc237 ((lg_cmp_eq _ _).mpr (hz.mpr z)); simpa using q))
        | exact ih (k + 1) _ _ (by omega) (scI_f hI (hz.mp ((lg_cmp_eq _ _).mp zc237)))
      · refine g_goto (tgt := 250) dX11_check_240 (by decide) ?_
        refine g_iinc (v := _ + 1) (ls' := [_, _, _, _, _, _, _, _, _, _, _, _, _, _, _, _, _]) dX11_check_250 rfl rfl (by decide) rfl rfl ?_
        refine g_goto (tgt := 209) dX11_check_253 (by decide) ?_
        rw [nI_1]
        first
        | exact ih (k + 1) _ _ (by omega) (scI_t hI (by have q := fun z => zc237 ((lg_cmp_eq _ _).mpr (hz.mpr z)); simpa using q))
        | exact ih (k + 1) _ _ (by omega) (scI_f hI (hz.mp ((lg_cmp_eq _ _).mp zc237)))
theorem t178_X11_check {N sn X : Nat} (hN : N = 8 ∨ N = 16 ∨ N = 32 ∨ N = 64) (hs : sn ≤ N) (hX : X < 2 ^ 129) (x12 : Int64) {σ : gH} {h : Nat → Int64} (hM : Mm σ o ad (uJ S 26 h)) (hn : nrm h 8) (hV : hv h = (X : Int)) (v : Option Value) (hv2 : gN2 [none, v] 2 = true) (hp : ∀ σ' h', Mm σ' o ad (uJ S 26 h') → post (some (.int (bI (2 ^ (N + sn) ≤ X ∧ X ≤ 2 ^ (N + sn) + 2 ^ sn)))) σ') : G l mX11_check 2 0 0 post σ 178 [some (.ref o), some (.int (nI N)), some (.long d), none, some (.int (nI sn)), some (.long m), none, some (.int ov), some (.long a), none, some (.long b), none, some (.long x12), none, v, none, none] [] := by
  have hN64 : N ≤ 64 := by omega
  have hI : vp_in (nI 7) 8 := vp_in_nI (by decide) (by decide)
  have hck : (7 : Int32).toNatClampNeg = 7 := by decide
  refine g_aload_n (i := 0) dX11_check_178 rfl rfl ?_
  refine g_iload_n (i := 1) dX11_check_179 rfl rfl ?_
  refine g_iload dX11_check_180 rfl ?_
  refine g_iadd dX11_check_182 ?_
  rw [nI_add]
  refine g_callVv (My := mX11_takeBit) [_] dX11_check_183 lkX11_255 mvX11_takeBit rfl hM.1 rfl (c_X11_takeBit hM hn (p := N + sn) (by omega)) (by decide) (by decide) (by decide) rfl (Nat.le_of_ble_eq_true rfl) (fun σ zh183 => ?_)
  obtain ⟨h', hM, hn', h77, hV'⟩ := zh183
  have hp := hp σ h' hM
  obtain ⟨L, g1, g2, g3⟩ := hv_7 hn'
  rw [hV', hV] at g3
  have hXb : (X : Int) < 680564733841876926926749214863536422912 := by
    have q : (2 : Nat) ^ 129 = 680564733841876926926749214863536422912 := by decide
    omega
  have hz : (h' 7).toInt = 0 ↔ 2 ^ (N + sn) ≤ X := by
    generalize 2 ^ (N + sn) = Z at *
    constructor
    · intro q; omega
    · intro q; omega
  refine g_aload_n (i := 0) dX11_check_186 rfl rfl ?_
  refine gm_get hM (k := 26) dX11_check_187 flX11_53 rfl ?_
  refine g_bipush (v := 7) dX11_check_190 (by decide) ?_
  refine gm_lald hM dX11_check_192 rfl (hI) ?_
  refine g_tol (h' 7) (by rw [hck]; rfl) ?_
  refine g_lconst (v := 0) dX11_check_193 (by decide) ?_
  refine g_lcmp dX11_check_194 ?_
  refine g_if_eq (tgt := 200) dX11_check_195 (by decide) (fun zc195 => ?_) (fun zc195 => ?_)
  · refine g_iconst (v := (-1)) dX11_check_200 (by decide) ?_
    refine g_istore (ls' := [_, _, _, _, _, _, _, _, _, _, _, _, _, _, _, _, _]) dX11_check_201 (by decide) rfl rfl ?_
    refine g_iconst (v := 0) dX11_check_203 (by decide) ?_
    refine g_istore (ls' := [_, _, _, _, _, _, _, _, _, _, _, _, _, _, _, _, _]) dX11_check_204 (by decide) rfl rfl ?_
    refine g_iconst (v := 0) dX11_check_206 (by decide) ?_
    refine g_istore (ls' := [_, _, _, _, _, _, _, _, _, _, _, _, _, _, _, _, _]) dX11_check_207 (by decide) rfl rfl ?_
    have q7 : (h' 7).toInt = 0 := by rw [(lg_cmp_eq _ _).mp zc195]; exact i64c4
    have hle := hz.mp q7
    have hpp : bI (2 ^ (N + sn) ≤ X ∧ X ≤ 2 ^ (N + sn) + 2 ^ sn) = bI (X - 2 ^ (N + sn) ≤ 2 ^ sn) := by
      generalize 2 ^ (N + sn) = Z at *
      generalize 2 ^ sn = Y at *
      by_cases q : X - Z ≤ Y
      · rw [bI_t q, bI_t ⟨hle, by omega⟩]
      · rw [bI_f q, bI_f (fun z => q (by omega))]
    rw [hpp] at hp
    refine l3_X11_check (X := X - 2 ^ (N + sn)) (by omega) hn' q7 ?_ ?_ hM x12 hp 200 0 (-1) 0 (by omega) (Or.inl ⟨by rw [Nat.pow_zero, Nat.mod_one], rfl, rfl⟩)
    · rw [hV', hV]
      generalize 2 ^ (N + sn) = Z at *
      omega
    · exact Nat.lt_of_le_of_lt (Nat.sub_le _ _) (Nat.lt_trans hX (by decide))
  · refine g_iconst (v := 0) dX11_check_198 (by decide) ?_
    refine g_iret dX11_check_199 rfl ?_
    rw [bI_f (fun z => zc195 ((lg_cmp_eq _ _).mpr (Int64.toInt_inj.mp (by rw [i64c4]; exact hz.mpr z.1))))] at hp
    exact hp
theorem c_X11_check {A : aA} {σ : gH} (hM : Mm σ o ad S) (hR : RepM S A) (w : Int32) (d : Int64) (s : Int32) (m : Int64) (ov : Int32) : Ct l mX11_check 2 0 0 [.ref o, .int w, .long d, .int s, .long m, .int ov] σ (pI (mP o ad (sCheck w d s m ov, A))) := by
  refine Ct_of moX11_check [some (.ref o), some (.int w), some (.long d), none, some (.int s), some (.long m), none, some (.int ov), none, none, none, none, none, none, none, none, none] rfl (Nat.le_of_ble_eq_true rfl) ?_
  by_cases hh : isW w ∧ (¬ s < 0 ∧ s ≤ w) ∧ (ov = 0 ∨ ov = 1) ∧ ¬ mLow d w = 0
  · have hv0 : sCheck w d s m ov = bI (ckP w d s m ov) := by
      unfold sCheck
      rw [if_pos hh]
    rw [hv0]
    obtain ⟨hw, hs, ho, hd⟩ := hh
    obtain ⟨N, hN, rfl⟩ := isW_N hw
    obtain ⟨sn, hsn, rfl⟩ := ixle N (by omega) hs.1 hs.2
    have ho0 : ¬ ov < 0 := by rcases ho with rfl | rfl <;> decide
    have ho1 : ¬ 1 < ov := by rcases ho with rfl | rfl <;> decide
    have ha := mLow_lt m hN
    have hb := mLow_lt d hN
    have hcN : (nI N).toNatClampNeg = N := nI_clamp (by omega)
    have hcs : (nI sn).toNatClampNeg = sn := nI_clamp (by omega)
    generalize eA : mLow m (nI N) = a at *
    generalize eB : mLow d (nI N) = b at *
    have hP : uN a * uN b < 2 ^ 128 := by
      have q : uN a * uN b < 2 ^ N * 2 ^ N := Nat.mul_lt_mul'' ha hb
      have q3 : 2 ^ N * 2 ^ N ≤ 2 ^ 128 := by rw [← Nat.pow_add]; exact Nat.pow_le_pow_right (by decide) (by omega)
      omega
    have hck : ckP (nI N) d (nI sn) m ov ↔ (2 ^ (N + sn) ≤ uN a * uN b + (if ov = 1 then 2 ^ N * uN b else 0) ∧ uN a * uN b + (if ov = 1 then 2 ^ N * uN b else 0) ≤ 2 ^ (N + sn) + 2 ^ sn) := by
      unfold ckP ckM
      rw [hcN, hcs, eA, eB, Nat.add_mul]
      rcases ho with rfl | rfl
      · simp
      · simp
    have hpp : bI (ckP (nI N) d (nI sn) m ov) = bI (2 ^ (N + sn) ≤ uN a * uN b + (if ov = 1 then 2 ^ N * uN b else 0) ∧ uN a * uN b + (if ov = 1 then 2 ^ N * uN b else 0) ≤ 2 ^ (N + sn) + 2 ^ sn) := by
      by_cases q : ckP (nI N) d (nI sn) m ov
      · rw [bI_t q, bI_t (hck.mp q)]
      · rw [bI_f q, bI_f (fun z => q (hck.mpr z))]
    rw [hpp]
    have t80 : ∀ (σ : gH) (h : Nat → Int64), Mm σ o ad (uJ S 26 h) → (∀ j, j < 8 → h j = 0) → G l mX11_check 2 0 0 (pI (mP o ad (bI (2 ^ (N + sn) ≤ uN a * uN b + (if ov = 1 then 2 ^ N * uN b else 0) ∧ uN a * uN b + (if ov = 1 then 2 ^ N * uN b else 0) ≤ 2 ^ (N + sn) + 2 ^ sn), A))) σ 80 [some (.ref o), some (.int (nI N)), some (.long d), none, some (.int (nI sn)), some (.long m), none, some (.int ov), some (.long a), none, some (.long b), none, some (.int (nI 8)), none, none, none, none] [] := by
      intro σ h hM h0
      have lo := uN_mul a b
      have hi := bHi64_N a b
      have i0 : vp_in (nI 0) 8 := vp_in_nI (by decide) (by decide)
      have i1 : vp_in (nI 1) 8 := vp_in_nI (by decide) (by decide)
      have i2 : vp_in (nI 2) 8 := vp_in_nI (by decide) (by decide)
      have i3 : vp_in (nI 3) 8 := vp_in_nI (by decide) (by decide)
      have fin : ∀ (σ : gH) (h' : Nat → Int64), Mm σ o ad (uJ S 26 h') → h' = vp_updL (vp_updL (vp_updL (vp_updL h 0 ((a * b) &&& 4294967295)) 1 (gUshr (a * b) 32)) 2 (bHi64 a b &&& 4294967295)) 3 (gUshr (bHi64 a b) 32) → nrm h' 8 ∧ hv h' = ((uN a * uN b : Nat) : Int) := by
        intro σ h' hM e
        have s32 : ∀ x : Int64, uN (gUshr x 32) = uN x / 4294967296 := fun x => uN_gUshr x (s := 32) (by decide)
        have e0 : h' 0 = (a * b) &&& 4294967295 := by rw [e]; rfl
        have e1 : h' 1 = gUshr (a * b) 32 := by rw [e]; rfl
        have e2 : h' 2 = bHi64 a b &&& 4294967295 := by rw [e]; rfl
        have e3 : h' 3 = gUshr (bHi64 a b) 32 := by rw [e]; rfl
        have e4 : ∀ j, 4 ≤ j → j < 8 → (h' j).toInt = 0 := by
          intro j h4 h8
          rw [e, pk_uLn (by omega), pk_uLn (by omega), pk_uLn (by omega), pk_uLn (by omega), h0 j h8]
          exact i64c4
        have l1 := uN_lt (a * b)
        have l2 := uN_lt (bHi64 a b)
        have z0 : (h' 0).toInt = ((uN (a * b) % 4294967296 : Nat) : Int) := by rw [e0, lz_uN (by rw [uN_lo]; omega), uN_lo]
        have z1 : (h' 1).toInt = ((uN (a * b) / 4294967296 : Nat) : Int) := by rw [e1, lz_uN (by rw [s32]; omega), s32]
        have z2 : (h' 2).toInt = ((uN (bHi64 a b) % 4294967296 : Nat) : Int) := by rw [e2, lz_uN (by rw [uN_lo]; omega), uN_lo]
        have z3 : (h' 3).toInt = ((uN (bHi64 a b) / 4294967296 : Nat) : Int) := by rw [e3, lz_uN (by rw [s32]; omega), s32]
        constructor
        · intro j hj
          by_cases q4 : 4 ≤ j
          · rw [e4 j q4 hj]; omega
          · rcases (show j = 0 ∨ j = 1 ∨ j = 2 ∨ j = 3 by omega) with rfl | rfl | rfl | rfl
            · rw [z0]; omega
            · rw [z1]; omega
            · rw [z2]; omega
            · rw [z3]; omega
        · unfold hv
          rw [z0, z1, z2, z3, e4 4 (by decide) (by decide), e4 5 (by decide) (by decide), e4 6 (by decide) (by decide), e4 7 (by decide) (by decide), lo, hi]
          generalize uN a * uN b = X at *
          clear z0 z1 z2 z3 e0 e1 e2 e3
          omega
      have t144 : ∀ (σ : gH) (h' : Nat → Int64), Mm σ o ad (uJ S 26 h') → h' = vp_updL (vp_updL (vp_updL (vp_updL h 0 ((a * b) &&& 4294967295)) 1 (gUshr (a * b) 32)) 2 (bHi64 a b &&& 4294967295)) 3 (gUshr (bHi64 a b) 32) → G l mX11_check 2 0 0 (pI (mP o ad (bI (2 ^ (N + sn) ≤ uN a * uN b + (if ov = 1 then 2 ^ N * uN b else 0) ∧ uN a * uN b + (if ov = 1 then 2 ^ N * uN b else 0) ≤ 2 ^ (N + sn) + 2 ^ sn), A))) σ 144 [some (.ref o), some (.int (nI N)), some (.long d), none, some (.int (nI sn)), some (.long m), none, some (.int ov), some (.long a), none, some (.long b), none, some (.long (bHi64 a b)), none, some (.int (nI 0)), none, none] [] := by
        intro σ h' hM e
        obtain ⟨hn, hV⟩ := fin σ h' hM e
        rcases ho with rfl | rfl
        · rw [if_neg (by decide), Nat.add_zero]
          refine g_iload dX11_check_144 rfl ?_
          refine g_bipush (v := 64) dX11_check_146 (by decide) ?_
          refine g_icmp_ge (tgt := 178) dX11_check_148 (by decide) (fun zc148 => ?_) (fun zc148 => ?_)
          · exact absurd zc148 (by decide)
          · refine g_iload dX11_check_151 rfl ?_
            refine g_iconst (v := 1) dX11_check_153 (by decide) ?_
            refine g_icmp_ne (tgt := 178) dX11_check_154 (by decide) (fun zc154 => ?_) (fun zc154 => ?_)
            · exact t178_X11_check hN hsn (Nat.lt_trans hP (by decide)) _ hM hn hV _ rfl (fun σ' h'' q => ⟨_, rfl, rfl, _, q, hR.m26 _⟩)
            · exact absurd zc154 (by decide)
        · rw [if_pos rfl]
          refine l2_X11_check hN hP hb _ (fun σ' h'' v q1 q2 q3 => ?_) 64 0 h' σ (by omega) hM hn (by rw [hV, Nat.pow_zero, Nat.mod_one, Nat.mul_zero, Nat.add_zero])
          refine g_fg [some (.ref o), some (.int (nI N)), some (.long d), none, some (.int (nI sn)), some (.long m), none, some (.int 1), some (.long a), none, some (.long b), none, some (.long (bHi64 a b)), none, none, none, none] (by simp [gLe]) (t178_X11_check hN hsn ?_ _ q1 q2 q3 none rfl (fun σ' h'' q => ⟨_, rfl, rfl, _, q, hR.m26 _⟩))
          have g2 : 2 ^ N * uN b < 2 ^ N * 2 ^ N := Nat.mul_lt_mul_of_pos_left hb (Nat.two_pow_pos N)
          have g3 : 2 ^ N * 2 ^ N ≤ 2 ^ 128 := by rw [← Nat.pow_add]; exact Nat.pow_le_pow_right (by decide) (by omega)
          have g4 : 2 ^ 129 = 2 ^ 128 + 2 ^ 128 := by decide
          omega
      refine g_aload_n (i := 0) dX11_check_80 rfl rfl ?_
      refine gm_get hM (k := 26) dX11_check_81 flX11_53 rfl ?_
      refine g_iconst (v := 0) dX11_check_84 (by decide) ?_
      refine g_lload dX11_check_85 rfl ?_
      refine g_lload dX11_check_87 rfl ?_
      refine g_lmul dX11_check_89 ?_
      refine g_ldc2 (v := 4294967295) dX11_check_90 klX11_95 ?_
      refine g_land dX11_check_93 ?_
      refine gm_last hM dX11_check_94 rfl (i0) (fun σ hM => ?_)
      refine g_aload_n (i := 0) dX11_check_95 rfl rfl ?_
      refine gm_get hM (k := 26) dX11_check_96 flX11_53 rfl ?_
      refine g_iconst (v := 1) dX11_check_99 (by decide) ?_
      refine g_lload dX11_check_100 rfl ?_
      refine g_lload dX11_check_102 rfl ?_
      refine g_lmul dX11_check_104 ?_
      refine g_bipush (v := 32) dX11_check_105 (by decide) ?_
      refine g_lushr dX11_check_107 ?_
      refine gm_last hM dX11_check_108 rfl (i1) (fun σ hM => ?_)
      refine g_lload dX11_check_109 rfl ?_
      refine g_lload dX11_check_111 rfl ?_
      refine g_callSl (My := mX11_upper) [_, _] dX11_check_113 lkX11_97 mvX11_upper rfl (c_X11_upper _ _) (by decide) (by decide) (by decide) rfl (Nat.le_of_ble_eq_true rfl) (fun zr113 σ zh113 => ?_)
      obtain ⟨rfl, rfl⟩ := zh113
      refine g_lstore (ls' := [_, _, _, _, _, _, _, _, _, _, _, _, _, _, _, _, _]) dX11_check_116 (by decide) rfl rfl ?_
      refine g_aload_n (i := 0) dX11_check_118 rfl rfl ?_
      refine gm_get hM (k := 26) dX11_check_119 flX11_53 rfl ?_
      refine g_iconst (v := 2) dX11_check_122 (by decide) ?_
      refine g_lload dX11_check_123 rfl ?_
      refine g_ldc2 (v := 4294967295) dX11_check_125 klX11_95 ?_
      refine g_land dX11_check_128 ?_
      refine gm_last hM dX11_check_129 rfl (i2) (fun σ hM => ?_)
      refine g_aload_n (i := 0) dX11_check_130 rfl rfl ?_
      refine gm_get hM (k := 26) dX11_check_131 flX11_53 rfl ?_
      refine g_iconst (v := 3) dX11_check_134 (by decide) ?_
      refine g_lload dX11_check_135 rfl ?_
      refine g_bipush (v := 32) dX11_check_137 (by decide) ?_
      refine g_lushr dX11_check_139 ?_
      refine gm_last hM dX11_check_140 rfl (i3) (fun σ hM => ?_)
      refine g_iconst (v := 0) dX11_check_141 (by decide) ?_
      refine g_istore (ls' := [_, _, _, _, _, _, _, _, _, _, _, _, _, _, _, _, _]) dX11_check_142 (by decide) rfl rfl ?_
      refine t144 _ _ ?_ rfl
      rw [uJ_uJ, uJ_uJ, uJ_uJ, uJ_uJ] at hM
      exact hM
    refine g_iload_n (i := 1) dX11_check_0 rfl rfl ?_
    refine g_callSi (My := mX11_isWidth) [_] dX11_check_1 lkX11_153 mvX11_isWidth rfl (c_X11_isWidth _) (by decide) (by decide) (by decide) rfl (Nat.le_of_ble_eq_true rfl) (fun zr1 σ zh1 => ?_)
    obtain ⟨rfl, rfl⟩ := zh1
    refine g_if_eq (tgt := 39) dX11_check_4 (by decide) (fun zc4 => ?_) (fun zc4 => ?_)
    · exact absurd hw (bI_eq0.mp zc4)
    · refine g_iload dX11_check_7 rfl ?_
      refine g_if_lt (tgt := 39) dX11_check_9 (by decide) (fun zc9 => ?_) (fun zc9 => ?_)
      · exact absurd zc9 hs.1
      · refine g_iload dX11_check_12 rfl ?_
        refine g_iload_n (i := 1) dX11_check_14 rfl rfl ?_
        refine g_icmp_gt (tgt := 39) dX11_check_15 (by decide) (fun zc15 => ?_) (fun zc15 => ?_)
        · exact absurd zc15 (Int32.not_lt.mpr hs.2)
        · refine g_iload dX11_check_18 rfl ?_
          refine g_if_lt (tgt := 39) dX11_check_20 (by decide) (fun zc20 => ?_) (fun zc20 => ?_)
          · exact absurd zc20 ho0
          · refine g_iload dX11_check_23 rfl ?_
            refine g_iconst (v := 1) dX11_check_25 (by decide) ?_
            refine g_icmp_gt (tgt := 39) dX11_check_26 (by decide) (fun zc26 => ?_) (fun zc26 => ?_)
            · exact absurd zc26 ho1
            · refine g_lload_n (i := 2) dX11_check_29 rfl rfl ?_
              refine g_iload_n (i := 1) dX11_check_30 rfl rfl ?_
              refine g_callSl (My := mX11_low) [_, _] dX11_check_31 lkX11_105 mvX11_low rfl (c_X11_low _ _) (by decide) (by decide) (by decide) rfl (Nat.le_of_ble_eq_true rfl) (fun zr31 σ zh31 => ?_)
              obtain ⟨rfl, rfl⟩ := zh31
              refine g_lconst (v := 0) dX11_check_34 (by decide) ?_
              refine g_lcmp dX11_check_35 ?_
              refine g_if_ne (tgt := 41) dX11_check_36 (by decide) (fun zc36 => ?_) (fun zc36 => ?_)
              · refine g_lload dX11_check_41 rfl ?_
                refine g_iload_n (i := 1) dX11_check_43 rfl rfl ?_
                refine g_callSl (My := mX11_low) [_, _] dX11_check_44 lkX11_105 mvX11_low rfl (c_X11_low _ _) (by decide) (by decide) (by decide) rfl (Nat.le_of_ble_eq_true rfl) (fun zr44 σ zh44 => ?_)
                obtain ⟨rfl, rfl⟩ := zh44
                rw [eA]
                refine g_lstore (ls' := [_, _, _, _, _, _, _, _, _, _, _, _, _, _, _, _, _]) dX11_check_47 (by decide) rfl rfl ?_
                refine g_lload_n (i := 2) dX11_check_49 rfl rfl ?_
                refine g_iload_n (i := 1) dX11_check_50 rfl rfl ?_
                refine g_callSl (My := mX11_low) [_, _] dX11_check_51 lkX11_105 mvX11_low rfl (c_X11_low _ _) (by decide) (by decide) (by decide) rfl (Nat.le_of_ble_eq_true rfl) (fun zr51 σ zh51 => ?_)
                obtain ⟨rfl, rfl⟩ := zh51
                rw [eB]
                refine g_lstore (ls' := [_, _, _, _, _, _, _, _, _, _, _, _, _, _, _, _, _]) dX11_check_54 (by decide) rfl rfl ?_
                refine g_iconst (v := 0) dX11_check_56 (by decide) ?_
                refine g_istore (ls' := [_, _, _, _, _, _, _, _, _, _, _, _, _, _, _, _, _]) dX11_check_57 (by decide) rfl rfl ?_
                refine l1_X11_check (fun σ' h q1 q2 => t80 σ' h q1 q2) 8 0 (S.2.2.2 26) _ (by omega) (by rw [uJ_id]; exact hM) (fun j hj => absurd hj (Nat.not_lt_zero _))
              · exact absurd ((lg_cmp_eq _ _).mp zc36) (by rw [eB]; exact hd)
  · have hv0 : sCheck w d s m ov = -1 := by
      unfold sCheck
      rw [if_neg hh]
    rw [hv0]
    refine g_iload_n (i := 1) dX11_check_0 rfl rfl ?_
    refine g_callSi (My := mX11_isWidth) [_] dX11_check_1 lkX11_153 mvX11_isWidth rfl (c_X11_isWidth _) (by decide) (by decide) (by decide) rfl (Nat.le_of_ble_eq_true rfl) (fun zr1 σ zh1 => ?_)
    obtain ⟨rfl, rfl⟩ := zh1
    refine g_if_eq (tgt := 39) dX11_check_4 (by decide) (fun zc4 => ?_) (fun zc4 => ?_)
    · refine g_iconst (v := (-1)) dX11_check_39 (by decide) ?_
      refine g_iret dX11_check_40 rfl ?_
      exact ⟨_, rfl, rfl, S, hM, hR⟩
    · refine g_iload dX11_check_7 rfl ?_
      refine g_if_lt (tgt := 39) dX11_check_9 (by decide) (fun zc9 => ?_) (fun zc9 => ?_)
      · refine g_iconst (v := (-1)) dX11_check_39 (by decide) ?_
        refine g_iret dX11_check_40 rfl ?_
        exact ⟨_, rfl, rfl, S, hM, hR⟩
      · refine g_iload dX11_check_12 rfl ?_
        refine g_iload_n (i := 1) dX11_check_14 rfl rfl ?_
        refine g_icmp_gt (tgt := 39) dX11_check_15 (by decide) (fun zc15 => ?_) (fun zc15 => ?_)
        · refine g_iconst (v := (-1)) dX11_check_39 (by decide) ?_
          refine g_iret dX11_check_40 rfl ?_
          exact ⟨_, rfl, rfl, S, hM, hR⟩
        · refine g_iload dX11_check_18 rfl ?_
          refine g_if_lt (tgt := 39) dX11_check_20 (by decide) (fun zc20 => ?_) (fun zc20 => ?_)
          · refine g_iconst (v := (-1)) dX11_check_39 (by decide) ?_
            refine g_iret dX11_check_40 rfl ?_
            exact ⟨_, rfl, rfl, S, hM, hR⟩
          · refine g_iload dX11_check_23 rfl ?_
            refine g_iconst (v := 1) dX11_check_25 (by decide) ?_
            refine g_icmp_gt (tgt := 39) dX11_check_26 (by decide) (fun zc26 => ?_) (fun zc26 => ?_)
            · refine g_iconst (v := (-1)) dX11_check_39 (by decide) ?_
              refine g_iret dX11_check_40 rfl ?_
              exact ⟨_, rfl, rfl, S, hM, hR⟩
            · refine g_lload_n (i := 2) dX11_check_29 rfl rfl ?_
              refine g_iload_n (i := 1) dX11_check_30 rfl rfl ?_
              refine g_callSl (My := mX11_low) [_, _] dX11_check_31 lkX11_105 mvX11_low rfl (c_X11_low _ _) (by decide) (by decide) (by decide) rfl (Nat.le_of_ble_eq_true rfl) (fun zr31 σ zh31 => ?_)
              obtain ⟨rfl, rfl⟩ := zh31
              refine g_lconst (v := 0) dX11_check_34 (by decide) ?_
              refine g_lcmp dX11_check_35 ?_
              refine g_if_ne (tgt := 41) dX11_check_36 (by decide) (fun zc36 => ?_) (fun zc36 => ?_)
              · exact absurd ⟨bI_ne0.mp zc4, ⟨zc9, Int32.not_lt.mp zc15⟩, i01 zc20 zc26, fun q => zc36 ((lg_cmp_eq _ _).mpr q)⟩ hh
              · refine g_iconst (v := (-1)) dX11_check_39 (by decide) ?_
                refine g_iret dX11_check_40 rfl ?_
                exact ⟨_, rfl, rfl, S, hM, hR⟩
end CMcheck2
