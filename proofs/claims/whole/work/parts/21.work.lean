/-! switches; what a KIND makes; inverses and quotients -/
section GSw
variable {l : Launch} {M : gM} {d bc bs : Nat} {post : Option Value → gH → Prop} {σ : gH} {pc : Nat} {ls : List (Option Value)} {rest : List Value}
theorem g_tbIn {dflt lo hi : Int} {offs : Array Int} {len : Nat} {x c : Int32} {off : Int} {tgt : Nat} (hx : x = c) (hd : decode M.2.1 pc = .ok (.tableswitch dflt lo hi offs, len)) (q1 : ¬ c.toInt < lo) (q2 : ¬ hi < c.toInt) (ho : offs[(c.toInt - lo).toNat]? = some off) (ht : (pc : Int) + off = (tgt : Int)) (k : G l M d bc bs post σ tgt ls rest) : G l M d bc bs post σ pc ls (.int x :: rest) := by
  subst hx
  exact g_tableIn hd q1 q2 ho ht k
theorem g_tbOut {dflt lo hi : Int} {offs : Array Int} {len : Nat} {x : Int32} {tgt : Nat} (hd : decode M.2.1 pc = .ok (.tableswitch dflt lo hi offs, len)) (q : x.toInt < lo ∨ hi < x.toInt) (ht : (pc : Int) + dflt = (tgt : Int)) (k : G l M d bc bs post σ tgt ls rest) : G l M d bc bs post σ pc ls (.int x :: rest) := g_tableOut hd q ht k
theorem g_out {x : Int32} (lo hi : Int) (h : ∀ i : Int, lo ≤ i → i ≤ hi → ¬ x = Int32.ofInt i) : x.toInt < lo ∨ hi < x.toInt := by
  rcases Int.lt_or_le x.toInt lo with q | q
  · exact Or.inl q
  · rcases Int.lt_or_le hi x.toInt with q2 | q2
    · exact Or.inr q2
    · exact absurd (by rw [Int32.ofInt_toInt]) (h x.toInt q q2)
end GSw
def bAp (w k : Int32) (x y : Int64) : Int64 :=
  if k = 0 then gUshr x y.toInt32 else if k = 1 then gShr (bSig w x) y.toInt32 &&& bMask w else if k = 2 then bHiP w x y else if k = 3 then bHiS w x y else if k = 4 then x * y &&& bMask w else if k = 5 then (x + y) &&& bMask w else if k = 6 then (x - y) &&& bMask w else if k = 7 then (y - x) &&& bMask w else if k = 8 then x ^^^ y else if k = 9 then x &&& y else if k = 10 then (gUshr x y.toInt32 ||| gShl x (w - y.toInt32)) &&& bMask w else if k = 11 then (if bLt y x then 0 else 1) else if k = 12 then (if gUshr x (w - 1) = 0 then 0 else y) else 0
def mAp (k : Int32) (x y : Int64) (n : Int32) : Int64 :=
  if k = 0 then gUshr x y.toInt32 else if k = 1 then mLow (gShr (mSig x n) y.toInt32) n else if k = 2 then mHiP x y n else if k = 3 then mHiS x y n else if k = 4 then mLow (x * y) n else if k = 5 then mLow (x + y) n else if k = 6 then mLow (x - y) n else if k = 7 then mLow (y - x) n else if k = 8 then x ^^^ y else if k = 9 then x &&& y else if k = 10 then (if y = 0 then x else mLow (gUshr x y.toInt32 ||| gShl x (n - y.toInt32)) n) else if k = 11 then (if bLt y x then 0 else 1) else (if mUp x n then y else 0)
section CWork
variable {l : Launch} {σ : gH}
theorem c_X6_apply (w k : Int32) (x y : Int64) : Ct l mX6_apply 3 0 0 [.int w, .int k, .long x, .long y] σ (pL fun r σ' => r = bAp w k x y ∧ σ' = σ) := by
  refine Ct_of moX6_apply [some (.int w), some (.int k), some (.long x), none, some (.long y), none] rfl (Nat.le_of_ble_eq_true rfl) ?_
  refine g_iload_n (i := 1) dX6_apply_0 rfl rfl ?_
  by_cases e1_0 : k = 0
  · refine g_tbIn (c := 0) (tgt := 68) e1_0 dX6_apply_1 (by decide) (by decide) rfl (by decide) ?_
    refine g_lload_n (i := 2) dX6_apply_68 rfl rfl ?_
    refine g_lload dX6_apply_69 rfl ?_
    refine g_l2i dX6_apply_71 ?_
    refine g_lushr dX6_apply_72 ?_
    refine g_lret dX6_apply_73 rfl ?_
    exact ⟨_, rfl, by simp_all [bAp, bI_eq0, bI_ne0, lg_cmp_eq], rfl⟩
  by_cases e1_1 : k = 1
  · refine g_tbIn (c := 1) (tgt := 74) e1_1 dX6_apply_1 (by decide) (by decide) rfl (by decide) ?_
    refine g_iload_n (i := 0) dX6_apply_74 rfl rfl ?_
    refine g_lload_n (i := 2) dX6_apply_75 rfl rfl ?_
    refine g_callSl (My := mX2_signedOf) [_, _] dX6_apply_76 lkX6_7 mvX2_signedOf rfl (c_X2_signedOf _ _) (by decide) (by decide) (by decide) rfl (Nat.le_of_ble_eq_true rfl) (fun zr76 σ zh76 => ?_)
    obtain ⟨rfl, rfl⟩ := zh76
    refine g_lload dX6_apply_79 rfl ?_
    refine g_l2i dX6_apply_81 ?_
    refine g_lshr dX6_apply_82 ?_
    refine g_iload_n (i := 0) dX6_apply_83 rfl rfl ?_
    refine g_callSl (My := mX2_mask) [_] dX6_apply_84 lkX6_13 mvX2_mask rfl (c_X2_mask _) (by decide) (by decide) (by decide) rfl (Nat.le_of_ble_eq_true rfl) (fun zr84 σ zh84 => ?_)
    obtain ⟨rfl, rfl⟩ := zh84
    refine g_land dX6_apply_87 ?_
    refine g_lret dX6_apply_88 rfl ?_
    exact ⟨_, rfl, by simp_all [bAp, bI_eq0, bI_ne0, lg_cmp_eq], rfl⟩
  by_cases e1_2 : k = 2
  · refine g_tbIn (c := 2) (tgt := 89) e1_2 dX6_apply_1 (by decide) (by decide) rfl (by decide) ?_
    refine g_iload_n (i := 0) dX6_apply_89 rfl rfl ?_
    refine g_lload_n (i := 2) dX6_apply_90 rfl rfl ?_
    refine g_lload dX6_apply_91 rfl ?_
    refine g_callSl (My := mX2_highPlain) [_, _, _] dX6_apply_93 lkX6_17 mvX2_highPlain rfl (c_X2_highPlain _ _ _) (by decide) (by decide) (by decide) rfl (Nat.le_of_ble_eq_true rfl) (fun zr93 σ zh93 => ?_)
    obtain ⟨rfl, rfl⟩ := zh93
    refine g_lret dX6_apply_96 rfl ?_
    exact ⟨_, rfl, by simp_all [bAp, bI_eq0, bI_ne0, lg_cmp_eq], rfl⟩
  by_cases e1_3 : k = 3
  · refine g_tbIn (c := 3) (tgt := 97) e1_3 dX6_apply_1 (by decide) (by decide) rfl (by decide) ?_
    refine g_iload_n (i := 0) dX6_apply_97 rfl rfl ?_
    refine g_lload_n (i := 2) dX6_apply_98 rfl rfl ?_
    refine g_lload dX6_apply_99 rfl ?_
    refine g_callSl (My := mX2_highSigned) [_, _, _] dX6_apply_101 lkX6_21 mvX2_highSigned rfl (c_X2_highSigned _ _ _) (by decide) (by decide) (by decide) rfl (Nat.le_of_ble_eq_true rfl) (fun zr101 σ zh101 => ?_)
    obtain ⟨rfl, rfl⟩ := zh101
    refine g_lret dX6_apply_104 rfl ?_
    exact ⟨_, rfl, by simp_all [bAp, bI_eq0, bI_ne0, lg_cmp_eq], rfl⟩
  by_cases e1_4 : k = 4
  · refine g_tbIn (c := 4) (tgt := 105) e1_4 dX6_apply_1 (by decide) (by decide) rfl (by decide) ?_
    refine g_lload_n (i := 2) dX6_apply_105 rfl rfl ?_
    refine g_lload dX6_apply_106 rfl ?_
    refine g_lmul dX6_apply_108 ?_
    refine g_iload_n (i := 0) dX6_apply_109 rfl rfl ?_
    refine g_callSl (My := mX2_mask) [_] dX6_apply_110 lkX6_13 mvX2_mask rfl (c_X2_mask _) (by decide) (by decide) (by decide) rfl (Nat.le_of_ble_eq_true rfl) (fun zr110 σ zh110 => ?_)
    obtain ⟨rfl, rfl⟩ := zh110
    refine g_land dX6_apply_113 ?_
    refine g_lret dX6_apply_114 rfl ?_
    exact ⟨_, rfl, by simp_all [bAp, bI_eq0, bI_ne0, lg_cmp_eq], rfl⟩
  by_cases e1_5 : k = 5
  · refine g_tbIn (c := 5) (tgt := 115) e1_5 dX6_apply_1 (by decide) (by decide) rfl (by decide) ?_
    refine g_lload_n (i := 2) dX6_apply_115 rfl rfl ?_
    refine g_lload dX6_apply_116 rfl ?_
    refine g_ladd dX6_apply_118 ?_
    refine g_iload_n (i := 0) dX6_apply_119 rfl rfl ?_
    refine g_callSl (My := mX2_mask) [_] dX6_apply_120 lkX6_13 mvX2_mask rfl (c_X2_mask _) (by decide) (by decide) (by decide) rfl (Nat.le_of_ble_eq_true rfl) (fun zr120 σ zh120 => ?_)
    obtain ⟨rfl, rfl⟩ := zh120
    refine g_land dX6_apply_123 ?_
    refine g_lret dX6_apply_124 rfl ?_
    exact ⟨_, rfl, by simp_all [bAp, bI_eq0, bI_ne0, lg_cmp_eq], rfl⟩
  by_cases e1_6 : k = 6
  · refine g_tbIn (c := 6) (tgt := 125) e1_6 dX6_apply_1 (by decide) (by decide) rfl (by decide) ?_
    refine g_lload_n (i := 2) dX6_apply_125 rfl rfl ?_
    refine g_lload dX6_apply_126 rfl ?_
    refine g_lsub dX6_apply_128 ?_
    refine g_iload_n (i := 0) dX6_apply_129 rfl rfl ?_
    refine g_callSl (My := mX2_mask) [_] dX6_apply_130 lkX6_13 mvX2_mask rfl (c_X2_mask _) (by decide) (by decide) (by decide) rfl (Nat.le_of_ble_eq_true rfl) (fun zr130 σ zh130 => ?_)
    obtain ⟨rfl, rfl⟩ := zh130
    refine g_land dX6_apply_133 ?_
    refine g_lret dX6_apply_134 rfl ?_
    exact ⟨_, rfl, by simp_all [bAp, bI_eq0, bI_ne0, lg_cmp_eq], rfl⟩
  by_cases e1_7 : k = 7
  · refine g_tbIn (c := 7) (tgt := 135) e1_7 dX6_apply_1 (by decide) (by decide) rfl (by decide) ?_
    refine g_lload dX6_apply_135 rfl ?_
    refine g_lload_n (i := 2) dX6_apply_137 rfl rfl ?_
    refine g_lsub dX6_apply_138 ?_
    refine g_iload_n (i := 0) dX6_apply_139 rfl rfl ?_
    refine g_callSl (My := mX2_mask) [_] dX6_apply_140 lkX6_13 mvX2_mask rfl (c_X2_mask _) (by decide) (by decide) (by decide) rfl (Nat.le_of_ble_eq_true rfl) (fun zr140 σ zh140 => ?_)
    obtain ⟨rfl, rfl⟩ := zh140
    refine g_land dX6_apply_143 ?_
    refine g_lret dX6_apply_144 rfl ?_
    exact ⟨_, rfl, by simp_all [bAp, bI_eq0, bI_ne0, lg_cmp_eq], rfl⟩
  by_cases e1_8 : k = 8
  · refine g_tbIn (c := 8) (tgt := 145) e1_8 dX6_apply_1 (by decide) (by decide) rfl (by decide) ?_
    refine g_lload_n (i := 2) dX6_apply_145 rfl rfl ?_
    refine g_lload dX6_apply_146 rfl ?_
    refine g_lxor dX6_apply_148 ?_
    refine g_lret dX6_apply_149 rfl ?_
    exact ⟨_, rfl, by simp_all [bAp, bI_eq0, bI_ne0, lg_cmp_eq], rfl⟩
  by_cases e1_9 : k = 9
  · refine g_tbIn (c := 9) (tgt := 150) e1_9 dX6_apply_1 (by decide) (by decide) rfl (by decide) ?_
    refine g_lload_n (i := 2) dX6_apply_150 rfl rfl ?_
    refine g_lload dX6_apply_151 rfl ?_
    refine g_land dX6_apply_153 ?_
    refine g_lret dX6_apply_154 rfl ?_
    exact ⟨_, rfl, by simp_all [bAp, bI_eq0, bI_ne0, lg_cmp_eq], rfl⟩
  by_cases e1_10 : k = 10
  · refine g_tbIn (c := 10) (tgt := 155) e1_10 dX6_apply_1 (by decide) (by decide) rfl (by decide) ?_
    refine g_lload_n (i := 2) dX6_apply_155 rfl rfl ?_
    refine g_lload dX6_apply_156 rfl ?_
    refine g_l2i dX6_apply_158 ?_
    refine g_lushr dX6_apply_159 ?_
    refine g_lload_n (i := 2) dX6_apply_160 rfl rfl ?_
    refine g_iload_n (i := 0) dX6_apply_161 rfl rfl ?_
    refine g_lload dX6_apply_162 rfl ?_
    refine g_l2i dX6_apply_164 ?_
    refine g_isub dX6_apply_165 ?_
    refine g_lshl dX6_apply_166 ?_
    refine g_lor dX6_apply_167 ?_
    refine g_iload_n (i := 0) dX6_apply_168 rfl rfl ?_
    refine g_callSl (My := mX2_mask) [_] dX6_apply_169 lkX6_13 mvX2_mask rfl (c_X2_mask _) (by decide) (by decide) (by decide) rfl (Nat.le_of_ble_eq_true rfl) (fun zr169 σ zh169 => ?_)
    obtain ⟨rfl, rfl⟩ := zh169
    refine g_land dX6_apply_172 ?_
    refine g_lret dX6_apply_173 rfl ?_
    exact ⟨_, rfl, by simp_all [bAp, bI_eq0, bI_ne0, lg_cmp_eq], rfl⟩
  by_cases e1_11 : k = 11
  · refine g_tbIn (c := 11) (tgt := 174) e1_11 dX6_apply_1 (by decide) (by decide) rfl (by decide) ?_
    refine g_lload dX6_apply_174 rfl ?_
    refine g_lload_n (i := 2) dX6_apply_176 rfl rfl ?_
    refine g_callSi (My := mX2_below) [_, _] dX6_apply_177 lkX6_24 mvX2_below rfl (c_X2_below _ _) (by decide) (by decide) (by decide) rfl (Nat.le_of_ble_eq_true rfl) (fun zr177 σ zh177 => ?_)
    obtain ⟨rfl, rfl⟩ := zh177
    refine g_if_eq (tgt := 187) dX6_apply_180 (by decide) (fun zc180 => ?_) (fun zc180 => ?_)
    · refine g_lconst (v := 1) dX6_apply_187 (by decide) ?_
      refine g_lret dX6_apply_188 rfl ?_
      exact ⟨_, rfl, by simp_all [bAp, bI_eq0, bI_ne0, lg_cmp_eq], rfl⟩
    · refine g_lconst (v := 0) dX6_apply_183 (by decide) ?_
      refine g_goto (tgt := 188) dX6_apply_184 (by decide) ?_
      refine g_lret dX6_apply_188 rfl ?_
      exact ⟨_, rfl, by simp_all [bAp, bI_eq0, bI_ne0, lg_cmp_eq], rfl⟩
  by_cases e1_12 : k = 12
  · refine g_tbIn (c := 12) (tgt := 189) e1_12 dX6_apply_1 (by decide) (by decide) rfl (by decide) ?_
    refine g_lload_n (i := 2) dX6_apply_189 rfl rfl ?_
    refine g_iload_n (i := 0) dX6_apply_190 rfl rfl ?_
    refine g_iconst (v := 1) dX6_apply_191 (by decide) ?_
    refine g_isub dX6_apply_192 ?_
    refine g_lushr dX6_apply_193 ?_
    refine g_lconst (v := 0) dX6_apply_194 (by decide) ?_
    refine g_lcmp dX6_apply_195 ?_
    refine g_if_ne (tgt := 203) dX6_apply_196 (by decide) (fun zc196 => ?_) (fun zc196 => ?_)
    · refine g_lload dX6_apply_203 rfl ?_
      refine g_lret dX6_apply_205 rfl ?_
      exact ⟨_, rfl, by simp_all [bAp, bI_eq0, bI_ne0, lg_cmp_eq], rfl⟩
    · refine g_lconst (v := 0) dX6_apply_199 (by decide) ?_
      refine g_goto (tgt := 205) dX6_apply_200 (by decide) ?_
      refine g_lret dX6_apply_205 rfl ?_
      exact ⟨_, rfl, by simp_all [bAp, bI_eq0, bI_ne0, lg_cmp_eq], rfl⟩
  refine g_tbOut (tgt := 206) dX6_apply_1 (g_out 0 12 (by intro i h1 h2; (rcases (show i = 0 ∨ i = 1 ∨ i = 2 ∨ i = 3 ∨ i = 4 ∨ i = 5 ∨ i = 6 ∨ i = 7 ∨ i = 8 ∨ i = 9 ∨ i = 10 ∨ i = 11 ∨ i = 12 by omega) with rfl | rfl | rfl | rfl | rfl | rfl | rfl | rfl | rfl | rfl | rfl | rfl | rfl) <;> simp_all)) (by decide) ?_
  refine g_lconst (v := 0) dX6_apply_206 (by decide) ?_
  refine g_lret dX6_apply_207 rfl ?_
  exact ⟨_, rfl, by simp_all [bAp, bI_eq0, bI_ne0, lg_cmp_eq], rfl⟩
theorem c_X11_worked (k : Int32) (x y : Int64) (n : Int32) : Ct l mX11_worked 3 0 0 [.int k, .long x, .long y, .int n] σ (pL fun r σ' => r = mAp k x y n ∧ σ' = σ) := by
  refine Ct_of moX11_worked [some (.int k), some (.long x), none, some (.long y), none, some (.int n)] rfl (Nat.le_of_ble_eq_true rfl) ?_
  refine g_iload_n (i := 0) dX11_worked_0 rfl rfl ?_
  by_cases e1_0 : k = 0
  · refine g_tbIn (c := 0) (tgt := 64) e1_0 dX11_worked_1 (by decide) (by decide) rfl (by decide) ?_
    refine g_lload_n (i := 1) dX11_worked_64 rfl rfl ?_
    refine g_lload_n (i := 3) dX11_worked_65 rfl rfl ?_
    refine g_l2i dX11_worked_66 ?_
    refine g_lushr dX11_worked_67 ?_
    refine g_lret dX11_worked_68 rfl ?_
    exact ⟨_, rfl, by simp_all [mAp, bI_eq0, bI_ne0, lg_cmp_eq], rfl⟩
  by_cases e1_1 : k = 1
  · refine g_tbIn (c := 1) (tgt := 69) e1_1 dX11_worked_1 (by decide) (by decide) rfl (by decide) ?_
    refine g_lload_n (i := 1) dX11_worked_69 rfl rfl ?_
    refine g_iload dX11_worked_70 rfl ?_
    refine g_callSl (My := mX11_signed) [_, _] dX11_worked_72 lkX11_101 mvX11_signed rfl (c_X11_signed _ _) (by decide) (by decide) (by decide) rfl (Nat.le_of_ble_eq_true rfl) (fun zr72 σ zh72 => ?_)
    obtain ⟨rfl, rfl⟩ := zh72
    refine g_lload_n (i := 3) dX11_worked_75 rfl rfl ?_
    refine g_l2i dX11_worked_76 ?_
    refine g_lshr dX11_worked_77 ?_
    refine g_iload dX11_worked_78 rfl ?_
    refine g_callSl (My := mX11_low) [_, _] dX11_worked_80 lkX11_105 mvX11_low rfl (c_X11_low _ _) (by decide) (by decide) (by decide) rfl (Nat.le_of_ble_eq_true rfl) (fun zr80 σ zh80 => ?_)
    obtain ⟨rfl, rfl⟩ := zh80
    refine g_lret dX11_worked_83 rfl ?_
    exact ⟨_, rfl, by simp_all [mAp, bI_eq0, bI_ne0, lg_cmp_eq], rfl⟩
  by_cases e1_2 : k = 2
  · refine g_tbIn (c := 2) (tgt := 84) e1_2 dX11_worked_1 (by decide) (by decide) rfl (by decide) ?_
    refine g_lload_n (i := 1) dX11_worked_84 rfl rfl ?_
    refine g_lload_n (i := 3) dX11_worked_85 rfl rfl ?_
    refine g_iload dX11_worked_86 rfl ?_
    refine g_callSl (My := mX11_upperPlain) [_, _, _] dX11_worked_88 lkX11_121 mvX11_upperPlain rfl (c_X11_upperPlain _ _ _) (by decide) (by decide) (by decide) rfl (Nat.le_of_ble_eq_true rfl) (fun zr88 σ zh88 => ?_)
    obtain ⟨rfl, rfl⟩ := zh88
    refine g_lret dX11_worked_91 rfl ?_
    exact ⟨_, rfl, by simp_all [mAp, bI_eq0, bI_ne0, lg_cmp_eq], rfl⟩
  by_cases e1_3 : k = 3
  · refine g_tbIn (c := 3) (tgt := 92) e1_3 dX11_worked_1 (by decide) (by decide) rfl (by decide) ?_
    refine g_lload_n (i := 1) dX11_worked_92 rfl rfl ?_
    refine g_lload_n (i := 3) dX11_worked_93 rfl rfl ?_
    refine g_iload dX11_worked_94 rfl ?_
    refine g_callSl (My := mX11_upperSigned) [_, _, _] dX11_worked_96 lkX11_125 mvX11_upperSigned rfl (c_X11_upperSigned _ _ _) (by decide) (by decide) (by decide) rfl (Nat.le_of_ble_eq_true rfl) (fun zr96 σ zh96 => ?_)
    obtain ⟨rfl, rfl⟩ := zh96
    refine g_lret dX11_worked_99 rfl ?_
    exact ⟨_, rfl, by simp_all [mAp, bI_eq0, bI_ne0, lg_cmp_eq], rfl⟩
  by_cases e1_4 : k = 4
  · refine g_tbIn (c := 4) (tgt := 100) e1_4 dX11_worked_1 (by decide) (by decide) rfl (by decide) ?_
    refine g_lload_n (i := 1) dX11_worked_100 rfl rfl ?_
    refine g_lload_n (i := 3) dX11_worked_101 rfl rfl ?_
    refine g_lmul dX11_worked_102 ?_
    refine g_iload dX11_worked_103 rfl ?_
    refine g_callSl (My := mX11_low) [_, _] dX11_worked_105 lkX11_105 mvX11_low rfl (c_X11_low _ _) (by decide) (by decide) (by decide) rfl (Nat.le_of_ble_eq_true rfl) (fun zr105 σ zh105 => ?_)
    obtain ⟨rfl, rfl⟩ := zh105
    refine g_lret dX11_worked_108 rfl ?_
    exact ⟨_, rfl, by simp_all [mAp, bI_eq0, bI_ne0, lg_cmp_eq], rfl⟩
  by_cases e1_5 : k = 5
  · refine g_tbIn (c := 5) (tgt := 109) e1_5 dX11_worked_1 (by decide) (by decide) rfl (by decide) ?_
    refine g_lload_n (i := 1) dX11_worked_109 rfl rfl ?_
    refine g_lload_n (i := 3) dX11_worked_110 rfl rfl ?_
    refine g_ladd dX11_worked_111 ?_
    refine g_iload dX11_worked_112 rfl ?_
    refine g_callSl (My := mX11_low) [_, _] dX11_worked_114 lkX11_105 mvX11_low rfl (c_X11_low _ _) (by decide) (by decide) (by decide) rfl (Nat.le_of_ble_eq_true rfl) (fun zr114 σ zh114 => ?_)
    obtain ⟨rfl, rfl⟩ := zh114
    refine g_lret dX11_worked_117 rfl ?_
    exact ⟨_, rfl, by simp_all [mAp, bI_eq0, bI_ne0, lg_cmp_eq], rfl⟩
  by_cases e1_6 : k = 6
  · refine g_tbIn (c := 6) (tgt := 118) e1_6 dX11_worked_1 (by decide) (by decide) rfl (by decide) ?_
    refine g_lload_n (i := 1) dX11_worked_118 rfl rfl ?_
    refine g_lload_n (i := 3) dX11_worked_119 rfl rfl ?_
    refine g_lsub dX11_worked_120 ?_
    refine g_iload dX11_worked_121 rfl ?_
    refine g_callSl (My := mX11_low) [_, _] dX11_worked_123 lkX11_105 mvX11_low rfl (c_X11_low _ _) (by decide) (by decide) (by decide) rfl (Nat.le_of_ble_eq_true rfl) (fun zr123 σ zh123 => ?_)
    obtain ⟨rfl, rfl⟩ := zh123
    refine g_lret dX11_worked_126 rfl ?_
    exact ⟨_, rfl, by simp_all [mAp, bI_eq0, bI_ne0, lg_cmp_eq], rfl⟩
  by_cases e1_7 : k = 7
  · refine g_tbIn (c := 7) (tgt := 127) e1_7 dX11_worked_1 (by decide) (by decide) rfl (by decide) ?_
    refine g_lload_n (i := 3) dX11_worked_127 rfl rfl ?_
    refine g_lload_n (i := 1) dX11_worked_128 rfl rfl ?_
    refine g_lsub dX11_worked_129 ?_
    refine g_iload dX11_worked_130 rfl ?_
    refine g_callSl (My := mX11_low) [_, _] dX11_worked_132 lkX11_105 mvX11_low rfl (c_X11_low _ _) (by decide) (by decide) (by decide) rfl (Nat.le_of_ble_eq_true rfl) (fun zr132 σ zh132 => ?_)
    obtain ⟨rfl, rfl⟩ := zh132
    refine g_lret dX11_worked_135 rfl ?_
    exact ⟨_, rfl, by simp_all [mAp, bI_eq0, bI_ne0, lg_cmp_eq], rfl⟩
  by_cases e1_8 : k = 8
  · refine g_tbIn (c := 8) (tgt := 136) e1_8 dX11_worked_1 (by decide) (by decide) rfl (by decide) ?_
    refine g_lload_n (i := 1) dX11_worked_136 rfl rfl ?_
    refine g_lload_n (i := 3) dX11_worked_137 rfl rfl ?_
    refine g_lxor dX11_worked_138 ?_
    refine g_lret dX11_worked_139 rfl ?_
    exact ⟨_, rfl, by simp_all [mAp, bI_eq0, bI_ne0, lg_cmp_eq], rfl⟩
  by_cases e1_9 : k = 9
  · refine g_tbIn (c := 9) (tgt := 140) e1_9 dX11_worked_1 (by decide) (by decide) rfl (by decide) ?_
    refine g_lload_n (i := 1) dX11_worked_140 rfl rfl ?_
    refine g_lload_n (i := 3) dX11_worked_141 rfl rfl ?_
    refine g_land dX11_worked_142 ?_
    refine g_lret dX11_worked_143 rfl ?_
    exact ⟨_, rfl, by simp_all [mAp, bI_eq0, bI_ne0, lg_cmp_eq], rfl⟩
  by_cases e1_10 : k = 10
  · refine g_tbIn (c := 10) (tgt := 144) e1_10 dX11_worked_1 (by decide) (by decide) rfl (by decide) ?_
    refine g_lload_n (i := 3) dX11_worked_144 rfl rfl ?_
    refine g_lconst (v := 0) dX11_worked_145 (by decide) ?_
    refine g_lcmp dX11_worked_146 ?_
    refine g_if_ne (tgt := 154) dX11_worked_147 (by decide) (fun zc147 => ?_) (fun zc147 => ?_)
    · refine g_lload_n (i := 1) dX11_worked_154 rfl rfl ?_
      refine g_lload_n (i := 3) dX11_worked_155 rfl rfl ?_
      refine g_l2i dX11_worked_156 ?_
      refine g_lushr dX11_worked_157 ?_
      refine g_lload_n (i := 1) dX11_worked_158 rfl rfl ?_
      refine g_iload dX11_worked_159 rfl ?_
      refine g_lload_n (i := 3) dX11_worked_161 rfl rfl ?_
      refine g_l2i dX11_worked_162 ?_
      refine g_isub dX11_worked_163 ?_
      refine g_lshl dX11_worked_164 ?_
      refine g_lor dX11_worked_165 ?_
      refine g_iload dX11_worked_166 rfl ?_
      refine g_callSl (My := mX11_low) [_, _] dX11_worked_168 lkX11_105 mvX11_low rfl (c_X11_low _ _) (by decide) (by decide) (by decide) rfl (Nat.le_of_ble_eq_true rfl) (fun zr168 σ zh168 => ?_)
      obtain ⟨rfl, rfl⟩ := zh168
      refine g_lret dX11_worked_171 rfl ?_
      exact ⟨_, rfl, by simp_all [mAp, bI_eq0, bI_ne0, lg_cmp_eq], rfl⟩
    · refine g_lload_n (i := 1) dX11_worked_150 rfl rfl ?_
      refine g_goto (tgt := 171) dX11_worked_151 (by decide) ?_
      refine g_lret dX11_worked_171 rfl ?_
      exact ⟨_, rfl, by simp_all [mAp, bI_eq0, bI_ne0, lg_cmp_eq], rfl⟩
  by_cases e1_11 : k = 11
  · refine g_tbIn (c := 11) (tgt := 172) e1_11 dX11_worked_1 (by decide) (by decide) rfl (by decide) ?_
    refine g_lload_n (i := 3) dX11_worked_172 rfl rfl ?_
    refine g_lload_n (i := 1) dX11_worked_173 rfl rfl ?_
    refine g_callSi (My := mX11_isUnder) [_, _] dX11_worked_174 lkX11_108 mvX11_isUnder rfl (c_X11_isUnder _ _) (by decide) (by decide) (by decide) rfl (Nat.le_of_ble_eq_true rfl) (fun zr174 σ zh174 => ?_)
    obtain ⟨rfl, rfl⟩ := zh174
    refine g_if_eq (tgt := 184) dX11_worked_177 (by decide) (fun zc177 => ?_) (fun zc177 => ?_)
    · refine g_lconst (v := 1) dX11_worked_184 (by decide) ?_
      refine g_lret dX11_worked_185 rfl ?_
      exact ⟨_, rfl, by simp_all [mAp, bI_eq0, bI_ne0, lg_cmp_eq], rfl⟩
    · refine g_lconst (v := 0) dX11_worked_180 (by decide) ?_
      refine g_goto (tgt := 185) dX11_worked_181 (by decide) ?_
      refine g_lret dX11_worked_185 rfl ?_
      exact ⟨_, rfl, by simp_all [mAp, bI_eq0, bI_ne0, lg_cmp_eq], rfl⟩
  refine g_tbOut (tgt := 186) dX11_worked_1 (g_out 0 11 (by intro i h1 h2; (rcases (show i = 0 ∨ i = 1 ∨ i = 2 ∨ i = 3 ∨ i = 4 ∨ i = 5 ∨ i = 6 ∨ i = 7 ∨ i = 8 ∨ i = 9 ∨ i = 10 ∨ i = 11 by omega) with rfl | rfl | rfl | rfl | rfl | rfl | rfl | rfl | rfl | rfl | rfl | rfl) <;> simp_all)) (by decide) ?_
  refine g_lload_n (i := 1) dX11_worked_186 rfl rfl ?_
  refine g_iload dX11_worked_187 rfl ?_
  refine g_callSi (My := mX11_isUp) [_, _] dX11_worked_189 lkX11_128 mvX11_isUp rfl (c_X11_isUp _ _) (by decide) (by decide) (by decide) rfl (Nat.le_of_ble_eq_true rfl) (fun zr189 σ zh189 => ?_)
  obtain ⟨rfl, rfl⟩ := zh189
  refine g_if_eq (tgt := 199) dX11_worked_192 (by decide) (fun zc192 => ?_) (fun zc192 => ?_)
  · refine g_lconst (v := 0) dX11_worked_199 (by decide) ?_
    refine g_lret dX11_worked_200 rfl ?_
    exact ⟨_, rfl, by simp_all [mAp, bI_eq0, bI_ne0, lg_cmp_eq], rfl⟩
  · refine g_lload_n (i := 3) dX11_worked_195 rfl rfl ?_
    refine g_goto (tgt := 200) dX11_worked_196 (by decide) ?_
    refine g_lret dX11_worked_200 rfl ?_
    exact ⟨_, rfl, by simp_all [mAp, bI_eq0, bI_ne0, lg_cmp_eq], rfl⟩
def bInvL (w : Int32) (od : Int64) : Nat → Int32 → Int64 → Int64
  | 0, _, g => g
  | n + 1, b, g => if w ≤ b then g else bInvL w od n (b * 2) (g * (2 - od * g))
def bInvT (w : Int32) : Nat → Int32 → Bool
  | 0, b => decide (w ≤ b)
  | n + 1, b => decide (w ≤ b) || bInvT w n (b * 2)
def bInv (w : Int32) (od : Int64) : Int64 := bInvL w od 5 3 od &&& bMask w
theorem lp_X2_inverseOf (w : Int32) (od : Int64) {post : Option Value → gH → Prop} : ∀ (n : Nat) (b : Int32) (g : Int64), bInvT w n b = true → post (some (.long (bInvL w od n b g &&& bMask w))) σ → G l mX2_inverseOf 2 0 0 post σ 5 [some (.int w), some (.long od), none, some (.long g), none, some (.int b)] [] := by
  intro n
  induction n with
  | zero =>
    intro b g hT hp
    have hwb : w ≤ b := by simpa [bInvT] using hT
    refine g_iload dX2_inverseOf_5 rfl ?_
    refine g_iload_n (i := 0) dX2_inverseOf_7 rfl rfl ?_
    refine g_icmp_ge (tgt := 30) dX2_inverseOf_8 (by decide) (fun zc8 => ?_) (fun zc8 => ?_)
    · refine g_lload_n (i := 3) dX2_inverseOf_30 rfl rfl ?_
      refine g_iload_n (i := 0) dX2_inverseOf_31 rfl rfl ?_
      refine g_callSl (My := mX2_mask) [_] dX2_inverseOf_32 lkX2_27 mvX2_mask rfl (c_X2_mask _) (by decide) (by decide) (by decide) rfl (Nat.le_of_ble_eq_true rfl) (fun zr32 σ zh32 => ?_)
      obtain ⟨rfl, rfl⟩ := zh32
      refine g_land dX2_inverseOf_35 ?_
      refine g_lret dX2_inverseOf_36 rfl ?_
      exact hp
    · exact absurd hwb zc8
  | succ n ih =>
    intro b g hT hp
    refine g_iload dX2_inverseOf_5 rfl ?_
    refine g_iload_n (i := 0) dX2_inverseOf_7 rfl rfl ?_
    refine g_icmp_ge (tgt := 30) dX2_inverseOf_8 (by decide) (fun zc8 => ?_) (fun zc8 => ?_)
    · refine g_lload_n (i := 3) dX2_inverseOf_30 rfl rfl ?_
      refine g_iload_n (i := 0) dX2_inverseOf_31 rfl rfl ?_
      refine g_callSl (My := mX2_mask) [_] dX2_inverseOf_32 lkX2_27 mvX2_mask rfl (c_X2_mask _) (by decide) (by decide) (by decide) rfl (Nat.le_of_ble_eq_true rfl) (fun zr32 σ zh32 => ?_)
      obtain ⟨rfl, rfl⟩ := zh32
      refine g_land dX2_inverseOf_35 ?_
      refine g_lret dX2_inverseOf_36 rfl ?_
      simpa [bInvL, zc8] using hp
    · refine g_lload_n (i := 3) dX2_inverseOf_11 rfl rfl ?_
      refine g_ldc2 (v := 2) dX2_inverseOf_12 klX2_33 ?_
      refine g_lload_n (i := 1) dX2_inverseOf_15 rfl rfl ?_
      refine g_lload_n (i := 3) dX2_inverseOf_16 rfl rfl ?_
      refine g_lmul dX2_inverseOf_17 ?_
      refine g_lsub dX2_inverseOf_18 ?_
      refine g_lmul dX2_inverseOf_19 ?_
      refine g_lstore_n (i := 3) (ls' := [_, _, _, _, _, _]) dX2_inverseOf_20 rfl (by decide) rfl rfl ?_
      refine g_iload dX2_inverseOf_21 rfl ?_
      refine g_iconst (v := 2) dX2_inverseOf_23 (by decide) ?_
      refine g_imul dX2_inverseOf_24 ?_
      refine g_istore (ls' := [_, _, _, _, _, _]) dX2_inverseOf_25 (by decide) rfl rfl ?_
      refine g_goto (tgt := 5) dX2_inverseOf_27 (by decide) ?_
      exact ih _ _ (by simpa [bInvT, zc8] using hT) (by simpa [bInvL, zc8] using hp)
theorem c_X2_inverseOf (w : Int32) (hw : isW w) (od : Int64) : Ct l mX2_inverseOf 2 0 0 [.int w, .long od] σ (pL fun r σ' => r = bInv w od ∧ σ' = σ) := by
  refine Ct_of moX2_inverseOf [some (.int w), some (.long od), none, none, none, none] rfl (Nat.le_of_ble_eq_true rfl) ?_
  refine g_lload_n (i := 1) dX2_inverseOf_0 rfl rfl ?_
  refine g_lstore_n (i := 3) (ls' := [_, _, _, _, _, _]) dX2_inverseOf_1 rfl (by decide) rfl rfl ?_
  refine g_iconst (v := 3) dX2_inverseOf_2 (by decide) ?_
  refine g_istore (ls' := [_, _, _, _, _, _]) dX2_inverseOf_3 (by decide) rfl rfl ?_
  exact lp_X2_inverseOf w od 5 3 od (by rcases hw with rfl | rfl | rfl | rfl <;> decide) ⟨_, rfl, rfl, rfl⟩
def mInvL (od : Int64) : Nat → Int64 → Int64
  | 0, g => g
  | n + 1, g => mInvL od n (g * (2 - od * g))
def mInv (od : Int64) : Int64 := mInvL od 6 od
theorem lp_X11_inverseOf (od : Int64) {post : Option Value → gH → Prop} : ∀ (n : Nat) (k : Nat) (g : Int64), k + n = 6 → post (some (.long (mInvL od n g))) σ → G l mX11_inverseOf 1 0 0 post σ 5 [some (.long od), none, some (.long g), none, some (.int (nI k))] [] := by
  intro n
  induction n with
  | zero =>
    intro k g hk hp
    obtain rfl : k = 6 := by omega
    refine g_iload dX11_inverseOf_5 rfl ?_
    refine g_bipush (v := 6) dX11_inverseOf_7 (by decide) ?_
    refine g_icmp_ge (tgt := 28) dX11_inverseOf_9 (by decide) (fun zc9 => ?_) (fun zc9 => ?_)
    · refine g_lload_n (i := 2) dX11_inverseOf_28 rfl rfl ?_
      refine g_lret dX11_inverseOf_29 rfl ?_
      exact hp
    · exact absurd (by decide) zc9
  | succ n ih =>
    intro k g hk hp
    have hc : ¬ (6 : Int32) ≤ nI k := nI_ge (b := 6) (by omega) (by decide)
    refine g_iload dX11_inverseOf_5 rfl ?_
    refine g_bipush (v := 6) dX11_inverseOf_7 (by decide) ?_
    refine g_icmp_ge (tgt := 28) dX11_inverseOf_9 (by decide) (fun zc9 => ?_) (fun zc9 => ?_)
    · exact absurd zc9 hc
    · refine g_lload_n (i := 2) dX11_inverseOf_12 rfl rfl ?_
      refine g_ldc2 (v := 2) dX11_inverseOf_13 klX11_116 ?_
      refine g_lload_n (i := 0) dX11_inverseOf_16 rfl rfl ?_
      refine g_lload_n (i := 2) dX11_inverseOf_17 rfl rfl ?_
      refine g_lmul dX11_inverseOf_18 ?_
      refine g_lsub dX11_inverseOf_19 ?_
      refine g_lmul dX11_inverseOf_20 ?_
      refine g_lstore_n (i := 2) (ls' := [_, _, _, _, _]) dX11_inverseOf_21 rfl (by decide) rfl rfl ?_
      refine g_iinc (v := _ + 1) (ls' := [_, _, _, _, _]) dX11_inverseOf_22 rfl rfl (by decide) rfl rfl ?_
      refine g_goto (tgt := 5) dX11_inverseOf_25 (by decide) ?_
      exact g_cl (by rw [nI_1]) (ih (k + 1) _ (by omega) hp)
theorem c_X11_inverseOf (od : Int64) : Ct l mX11_inverseOf 1 0 0 [.long od] σ (pL fun r σ' => r = mInv od ∧ σ' = σ) := by
  refine Ct_of moX11_inverseOf [some (.long od), none, none, none, none] rfl (Nat.le_of_ble_eq_true rfl) ?_
  refine g_lload_n (i := 0) dX11_inverseOf_0 rfl rfl ?_
  refine g_lstore_n (i := 2) (ls' := [_, _, _, _, _]) dX11_inverseOf_1 rfl (by decide) rfl rfl ?_
  refine g_iconst (v := 0) dX11_inverseOf_2 (by decide) ?_
  refine g_istore (ls' := [_, _, _, _, _]) dX11_inverseOf_3 (by decide) rfl rfl ?_
  exact lp_X11_inverseOf od 6 0 od rfl ⟨_, rfl, rfl, rfl⟩
def bQuo (n d : Int64) : Int64 := if d = 0 then 0 else if d < 0 then (if bLt n d then 0 else 1) else if 0 ≤ n then n / d else if bLt (n - gShl (gUshr n 1 / d) 1 * d) d then gShl (gUshr n 1 / d) 1 else gShl (gUshr n 1 / d) 1 + 1
theorem c_X2_quotient (n d : Int64) : Ct l mX2_quotient 2 0 0 [.long n, .long d] σ (pL fun r σ' => r = bQuo n d ∧ σ' = σ) := by
  refine Ct_of moX2_quotient [some (.long n), none, some (.long d), none, none, none] rfl (Nat.le_of_ble_eq_true rfl) ?_
  refine g_lload_n (i := 2) dX2_quotient_0 rfl rfl ?_
  refine g_lconst (v := 0) dX2_quotient_1 (by decide) ?_
  refine g_lcmp dX2_quotient_2 ?_
  refine g_if_ne (tgt := 8) dX2_quotient_3 (by decide) (fun zc3 => ?_) (fun zc3 => ?_)
  · refine g_lload_n (i := 2) dX2_quotient_8 rfl rfl ?_
    refine g_lconst (v := 0) dX2_quotient_9 (by decide) ?_
    refine g_lcmp dX2_quotient_10 ?_
    refine g_if_ge (tgt := 28) dX2_quotient_11 (by decide) (fun zc11 => ?_) (fun zc11 => ?_)
    · refine g_lload_n (i := 0) dX2_quotient_28 rfl rfl ?_
      refine g_lconst (v := 0) dX2_quotient_29 (by decide) ?_
      refine g_lcmp dX2_quotient_30 ?_
      refine g_if_lt (tgt := 38) dX2_quotient_31 (by decide) (fun zc31 => ?_) (fun zc31 => ?_)
      · refine g_lload_n (i := 0) dX2_quotient_38 rfl rfl ?_
        refine g_iconst (v := 1) dX2_quotient_39 (by decide) ?_
        refine g_lushr dX2_quotient_40 ?_
        refine g_lload_n (i := 2) dX2_quotient_41 rfl rfl ?_
        refine g_ldiv dX2_quotient_42 (by rw [lg_cmp_eq] at zc3; exact zc3) ?_
        refine g_iconst (v := 1) dX2_quotient_43 (by decide) ?_
        refine g_lshl dX2_quotient_44 ?_
        refine g_lstore (ls' := [_, _, _, _, _, _]) dX2_quotient_45 (by decide) rfl rfl ?_
        refine g_lload_n (i := 0) dX2_quotient_47 rfl rfl ?_
        refine g_lload dX2_quotient_48 rfl ?_
        refine g_lload_n (i := 2) dX2_quotient_50 rfl rfl ?_
        refine g_lmul dX2_quotient_51 ?_
        refine g_lsub dX2_quotient_52 ?_
        refine g_lload_n (i := 2) dX2_quotient_53 rfl rfl ?_
        refine g_callSi (My := mX2_below) [_, _] dX2_quotient_54 lkX2_13 mvX2_below rfl (c_X2_below _ _) (by decide) (by decide) (by decide) rfl (Nat.le_of_ble_eq_true rfl) (fun zr54 σ zh54 => ?_)
        obtain ⟨rfl, rfl⟩ := zh54
        refine g_if_eq (tgt := 65) dX2_quotient_57 (by decide) (fun zc57 => ?_) (fun zc57 => ?_)
        · refine g_lload dX2_quotient_65 rfl ?_
          refine g_lconst (v := 1) dX2_quotient_67 (by decide) ?_
          refine g_ladd dX2_quotient_68 ?_
          refine g_lret dX2_quotient_69 rfl ?_
          refine ⟨_, rfl, ?_, rfl⟩
          (try simp only [lg_cmp_eq, lg_cmp_ge, lg_cmp_lt, bI_eq0, bI_ne0] at *)
          unfold bQuo
          (repeat' split) <;> first | rfl | contradiction | (exfalso; simp only [Int64.lt_iff_toInt_lt, Int64.le_iff_toInt_le] at *; omega)
        · refine g_lload dX2_quotient_60 rfl ?_
          refine g_goto (tgt := 69) dX2_quotient_62 (by decide) ?_
          refine g_lret dX2_quotient_69 rfl ?_
          refine ⟨_, rfl, ?_, rfl⟩
          (try simp only [lg_cmp_eq, lg_cmp_ge, lg_cmp_lt, bI_eq0, bI_ne0] at *)
          unfold bQuo
          (repeat' split) <;> first | rfl | contradiction | (exfalso; simp only [Int64.lt_iff_toInt_lt, Int64.le_iff_toInt_le] at *; omega)
      · refine g_lload_n (i := 0) dX2_quotient_34 rfl rfl ?_
        refine g_lload_n (i := 2) dX2_quotient_35 rfl rfl ?_
        refine g_ldiv dX2_quotient_36 (by rw [lg_cmp_eq] at zc3; exact zc3) ?_
        refine g_lret dX2_quotient_37 rfl ?_
        refine ⟨_, rfl, ?_, rfl⟩
        (try simp only [lg_cmp_eq, lg_cmp_ge, lg_cmp_lt, bI_eq0, bI_ne0] at *)
        unfold bQuo
        (repeat' split) <;> first | rfl | contradiction | (exfalso; simp only [Int64.lt_iff_toInt_lt, Int64.le_iff_toInt_le] at *; omega)
    · refine g_lload_n (i := 0) dX2_quotient_14 rfl rfl ?_
      refine g_lload_n (i := 2) dX2_quotient_15 rfl rfl ?_
      refine g_callSi (My := mX2_below) [_, _] dX2_quotient_16 lkX2_13 mvX2_below rfl (c_X2_below _ _) (by decide) (by decide) (by decide) rfl (Nat.le_of_ble_eq_true rfl) (fun zr16 σ zh16 => ?_)
      obtain ⟨rfl, rfl⟩ := zh16
      refine g_if_eq (tgt := 26) dX2_quotient_19 (by decide) (fun zc19 => ?_) (fun zc19 => ?_)
      · refine g_lconst (v := 1) dX2_quotient_26 (by decide) ?_
        refine g_lret dX2_quotient_27 rfl ?_
        refine ⟨_, rfl, ?_, rfl⟩
        (try simp only [lg_cmp_eq, lg_cmp_ge, lg_cmp_lt, bI_eq0, bI_ne0] at *)
        unfold bQuo
        (repeat' split) <;> first | rfl | contradiction | (exfalso; simp only [Int64.lt_iff_toInt_lt, Int64.le_iff_toInt_le] at *; omega)
      · refine g_lconst (v := 0) dX2_quotient_22 (by decide) ?_
        refine g_goto (tgt := 27) dX2_quotient_23 (by decide) ?_
        refine g_lret dX2_quotient_27 rfl ?_
        refine ⟨_, rfl, ?_, rfl⟩
        (try simp only [lg_cmp_eq, lg_cmp_ge, lg_cmp_lt, bI_eq0, bI_ne0] at *)
        unfold bQuo
        (repeat' split) <;> first | rfl | contradiction | (exfalso; simp only [Int64.lt_iff_toInt_lt, Int64.le_iff_toInt_le] at *; omega)
  · refine g_lconst (v := 0) dX2_quotient_6 (by decide) ?_
    refine g_lret dX2_quotient_7 rfl ?_
    refine ⟨_, rfl, ?_, rfl⟩
    (try simp only [lg_cmp_eq, lg_cmp_ge, lg_cmp_lt, bI_eq0, bI_ne0] at *)
    unfold bQuo
    (repeat' split) <;> first | rfl | contradiction | (exfalso; simp only [Int64.lt_iff_toInt_lt, Int64.le_iff_toInt_le] at *; omega)
def qSt (a b : Int64) (k : Int32) (q r : Int64) : Int64 × Int64 := if r < 0 ∨ ¬ bLt (gShl r 1 ||| (gUshr a k &&& 1)) b then (gShl q 1 ||| 1, (gShl r 1 ||| (gUshr a k &&& 1)) - b) else (gShl q 1, gShl r 1 ||| (gUshr a k &&& 1))
def qLp (a b : Int64) : Nat → Int64 → Int64 → Int64 × Int64
  | 0, q, r => (q, r)
  | n + 1, q, r => qLp a b n (qSt a b (nI n) q r).1 (qSt a b (nI n) q r).2
termination_by n => n
theorem qLp_t {a b : Int64} {n : Nat} {q r : Int64} (h : r < 0 ∨ ¬ bLt (gShl r 1 ||| (gUshr a (nI n) &&& 1)) b) : qLp a b (n + 1) q r = qLp a b n (gShl q 1 ||| 1) ((gShl r 1 ||| (gUshr a (nI n) &&& 1)) - b) := by
  simp only [qLp, qSt, if_pos h]
theorem qLp_f {a b : Int64} {n : Nat} {q r : Int64} (h : ¬ (r < 0 ∨ ¬ bLt (gShl r 1 ||| (gUshr a (nI n) &&& 1)) b)) : qLp a b (n + 1) q r = qLp a b n (gShl q 1) (gShl r 1 ||| (gUshr a (nI n) &&& 1)) := by
  simp only [qLp, qSt, if_neg h]
def mQuo (a b : Int64) : Int64 := (qLp a b 64 0 0).1
def mRem (a b : Int64) : Int64 := (qLp a b 64 0 0).2
theorem lp_X11_quotient {o : Nat} {ad : Nat → Nat} {S : mS} (hM : Mm σ o ad S) (a b : Int64) {post : Option Value → gH → Prop} : ∀ (n : Nat) (q r : Int64) (x10 : Option Value), n ≤ 64 → (∀ σ', Mm σ' o ad (ul S 1 (qLp a b n q r).2) → post (some (.long (qLp a b n q r).1)) σ') → gN2 [some (.ref o), some (.long a), none, some (.long b), none, some (.long q), none, some (.long r), none, some (.int (nI n - 1)), x10] 10 = true → G l mX11_quotient 2 0 0 post σ 10 [some (.ref o), some (.long a), none, some (.long b), none, some (.long q), none, some (.long r), none, some (.int (nI n - 1)), x10] [] := by
  intro n
  induction n with
  | zero =>
    intro q r x10 hn hp _
    simp only [qLp] at hp
    refine g_iload dX11_quotient_10 rfl ?_
    refine g_if_lt (tgt := 80) dX11_quotient_12 (by decide) (fun zc12 => ?_) (fun zc12 => ?_)
    · refine g_aload_n (i := 0) dX11_quotient_80 rfl rfl ?_
      refine g_lload dX11_quotient_81 rfl ?_
      refine gm_putl hM (k := 1) dX11_quotient_83 flX11_112 fp9_1 (by decide) (fun σ hM => ?_)
      refine g_lload dX11_quotient_86 rfl ?_
      refine g_lret dX11_quotient_88 rfl ?_
      exact hp _ hM
    · exact absurd (by decide) zc12
  | succ n ih =>
    intro q r x10 hn hp _
    have e1 : nI (n + 1) - 1 = nI n := nI_pred n
    rw [e1]
    have e2 : nI n + -1 = nI n - 1 := by rw [Int32.sub_eq_add_neg]
    refine g_iload dX11_quotient_10 rfl ?_
    refine g_if_lt (tgt := 80) dX11_quotient_12 (by decide) (fun zc12 => ?_) (fun zc12 => ?_)
    · exact absurd zc12 (nI_pos (by omega))
    · refine g_lload dX11_quotient_15 rfl ?_
      refine g_lconst (v := 0) dX11_quotient_17 (by decide) ?_
      refine g_lcmp dX11_quotient_18 ?_
      refine g_if_ge (tgt := 26) dX11_quotient_19 (by decide) (fun zc19 => ?_) (fun zc19 => ?_)
      · refine g_iconst (v := 0) dX11_quotient_26 (by decide) ?_
        refine g_istore (ls' := [_, _, _, _, _, _, _, _, _, _, _]) dX11_quotient_27 (by decide) rfl rfl ?_
        refine g_lload dX11_quotient_29 rfl ?_
        refine g_iconst (v := 1) dX11_quotient_31 (by decide) ?_
        refine g_lshl dX11_quotient_32 ?_
        refine g_lload_n (i := 1) dX11_quotient_33 rfl rfl ?_
        refine g_iload dX11_quotient_34 rfl ?_
        refine g_lushr dX11_quotient_36 ?_
        refine g_lconst (v := 1) dX11_quotient_37 (by decide) ?_
        refine g_land dX11_quotient_38 ?_
        refine g_lor dX11_quotient_39 ?_
        refine g_lstore (ls' := [_, _, _, _, _, _, _, _, _, _, _]) dX11_quotient_40 (by decide) rfl rfl ?_
        refine g_lload dX11_quotient_42 rfl ?_
        refine g_iconst (v := 1) dX11_quotient_44 (by decide) ?_
        refine g_lshl dX11_quotient_45 ?_
        refine g_lstore (ls' := [_, _, _, _, _, _, _, _, _, _, _]) dX11_quotient_46 (by decide) rfl rfl ?_
        refine g_iload dX11_quotient_48 rfl ?_
        refine g_if_ne (tgt := 62) dX11_quotient_50 (by decide) (fun zc50 => ?_) (fun zc50 => ?_)
        · refine g_lload dX11_quotient_62 rfl ?_
          refine g_lload_n (i := 3) dX11_quotient_64 rfl rfl ?_
          refine g_lsub dX11_quotient_65 ?_
          refine g_lstore (ls' := [_, _, _, _, _, _, _, _, _, _, _]) dX11_quotient_66 (by decide) rfl rfl ?_
          refine g_lload dX11_quotient_68 rfl ?_
          refine g_lconst (v := 1) dX11_quotient_70 (by decide) ?_
          refine g_lor dX11_quotient_71 ?_
          refine g_lstore (ls' := [_, _, _, _, _, _, _, _, _, _, _]) dX11_quotient_72 (by decide) rfl rfl ?_
          refine g_iinc (v := _ + (-1)) (ls' := [_, _, _, _, _, _, _, _, _, _, _]) dX11_quotient_74 rfl rfl (by decide) rfl rfl ?_
          refine g_goto (tgt := 10) dX11_quotient_77 (by decide) ?_
          rw [e2]
          first
          | exact absurd zc50 (by decide)
          | exact ih _ _ _ (by omega) (by rw [← qLp_t (Or.inl ((lg_cmp_lt r 0).mp (Int32.not_le.mp zc19)))]; exact hp) rfl
          | exact ih _ _ _ (by omega) (by rw [← qLp_t (Or.inr (bI_eq0.mp zc59))]; exact hp) rfl
          | exact ih _ _ _ (by omega) (by rw [← qLp_f (fun z => z.elim (fun z => absurd ((lg_cmp_ge r 0).mp zc19) (Int64.not_le.mpr z)) (fun z => z (bI_ne0.mp zc59)))]; exact hp) rfl
        · refine g_lload dX11_quotient_53 rfl ?_
          refine g_lload_n (i := 3) dX11_quotient_55 rfl rfl ?_
          refine g_callSi (My := mX11_isUnder) [_, _] dX11_quotient_56 lkX11_108 mvX11_isUnder rfl (c_X11_isUnder _ _) (by decide) (by decide) (by decide) rfl (Nat.le_of_ble_eq_true rfl) (fun zr56 σ zh56 => ?_)
          obtain ⟨rfl, rfl⟩ := zh56
          refine g_if_ne (tgt := 74) dX11_quotient_59 (by decide) (fun zc59 => ?_) (fun zc59 => ?_)
          · refine g_iinc (v := _ + (-1)) (ls' := [_, _, _, _, _, _, _, _, _, _, _]) dX11_quotient_74 rfl rfl (by decide) rfl rfl ?_
            refine g_goto (tgt := 10) dX11_quotient_77 (by decide) ?_
            rw [e2]
            first
            | exact absurd zc50 (by decide)
            | exact ih _ _ _ (by omega) (by rw [← qLp_t (Or.inl ((lg_cmp_lt r 0).mp (Int32.not_le.mp zc19)))]; exact hp) rfl
            | exact ih _ _ _ (by omega) (by rw [← qLp_t (Or.inr (bI_eq0.mp zc59))]; exact hp) rfl
            | exact ih _ _ _ (by omega) (by rw [← qLp_f (fun z => z.elim (fun z => absurd ((lg_cmp_ge r 0).mp zc19) (Int64.not_le.mpr z)) (fun z => z (bI_ne0.mp zc59)))]; exact hp) rfl
          · refine g_lload dX11_quotient_62 rfl ?_
            refine g_lload_n (i := 3) dX11_quotient_64 rfl rfl ?_
            refine g_lsub dX11_quotient_65 ?_
            refine g_lstore (ls' := [_, _, _, _, _, _, _, _, _, _, _]) dX11_quotient_66 (by decide) rfl rfl ?_
            refine g_lload dX11_quotient_68 rfl ?_
            refine g_lconst (v := 1) dX11_quotient_70 (by decide) ?_
            refine g_lor dX11_quotient_71 ?_
            refine g_lstore (ls' := [_, _, _, _, _, _, _, _, _, _, _]) dX11_quotient_72 (by decide) rfl rfl ?_
            refine g_iinc (v := _ + (-1)) (ls' := [_, _, _, _, _, _, _, _, _, _, _]) dX11_quotient_74 rfl rfl (by decide) rfl rfl ?_
            refine g_goto (tgt := 10) dX11_quotient_77 (by decide) ?_
            rw [e2]
            first
            | exact absurd zc50 (by decide)
            | exact ih _ _ _ (by omega) (by rw [← qLp_t (Or.inl ((lg_cmp_lt r 0).mp (Int32.not_le.mp zc19)))]; exact hp) rfl
            | exact ih _ _ _ (by omega) (by rw [← qLp_t (Or.inr (bI_eq0.mp zc59))]; exact hp) rfl
            | exact ih _ _ _ (by omega) (by rw [← qLp_f (fun z => z.elim (fun z => absurd ((lg_cmp_ge r 0).mp zc19) (Int64.not_le.mpr z)) (fun z => z (bI_ne0.mp zc59)))]; exact hp) rfl
      · refine g_iconst (v := 1) dX11_quotient_22 (by decide) ?_
        refine g_goto (tgt := 27) dX11_quotient_23 (by decide) ?_
        refine g_istore (ls' := [_, _, _, _, _, _, _, _, _, _, _]) dX11_quotient_27 (by decide) rfl rfl ?_
        refine g_lload dX11_quotient_29 rfl ?_
        refine g_iconst (v := 1) dX11_quotient_31 (by decide) ?_
        refine g_lshl dX11_quotient_32 ?_
        refine g_lload_n (i := 1) dX11_quotient_33 rfl rfl ?_
        refine g_iload dX11_quotient_34 rfl ?_
        refine g_lushr dX11_quotient_36 ?_
        refine g_lconst (v := 1) dX11_quotient_37 (by decide) ?_
        refine g_land dX11_quotient_38 ?_
        refine g_lor dX11_quotient_39 ?_
        refine g_lstore (ls' := [_, _, _, _, _, _, _, _, _, _, _]) dX11_quotient_40 (by decide) rfl rfl ?_
        refine g_lload dX11_quotient_42 rfl ?_
        refine g_iconst (v := 1) dX11_quotient_44 (by decide) ?_
        refine g_lshl dX11_quotient_45 ?_
        refine g_lstore (ls' := [_, _, _, _, _, _, _, _, _, _, _]) dX11_quotient_46 (by decide) rfl rfl ?_
        refine g_iload dX11_quotient_48 rfl ?_
        refine g_if_ne (tgt := 62) dX11_quotient_50 (by decide) (fun zc50 => ?_) (fun zc50 => ?_)
        · refine g_lload dX11_quotient_62 rfl ?_
          refine g_lload_n (i := 3) dX11_quotient_64 rfl rfl ?_
          refine g_lsub dX11_quotient_65 ?_
          refine g_lstore (ls' := [_, _, _, _, _, _, _, _, _, _, _]) dX11_quotient_66 (by decide) rfl rfl ?_
          refine g_lload dX11_quotient_68 rfl ?_
          refine g_lconst (v := 1) dX11_quotient_70 (by decide) ?_
          refine g_lor dX11_quotient_71 ?_
          refine g_lstore (ls' := [_, _, _, _, _, _, _, _, _, _, _]) dX11_quotient_72 (by decide) rfl rfl ?_
          refine g_iinc (v := _ + (-1)) (ls' := [_, _, _, _, _, _, _, _, _, _, _]) dX11_quotient_74 rfl rfl (by decide) rfl rfl ?_
          refine g_goto (tgt := 10) dX11_quotient_77 (by decide) ?_
          rw [e2]
          first
          | exact absurd zc50 (by decide)
          | exact ih _ _ _ (by omega) (by rw [← qLp_t (Or.inl ((lg_cmp_lt r 0).mp (Int32.not_le.mp zc19)))]; exact hp) rfl
          | exact ih _ _ _ (by omega) (by rw [← qLp_t (Or.inr (bI_eq0.mp zc59))]; exact hp) rfl
          | exact ih _ _ _ (by omega) (by rw [← qLp_f (fun z => z.elim (fun z => absurd ((lg_cmp_ge r 0).mp zc19) (Int64.not_le.mpr z)) (fun z => z (bI_ne0.mp zc59)))]; exact hp) rfl
        · refine g_lload dX11_quotient_53 rfl ?_
          refine g_lload_n (i := 3) dX11_quotient_55 rfl rfl ?_
          refine g_callSi (My := mX11_isUnder) [_, _] dX11_quotient_56 lkX11_108 mvX11_isUnder rfl (c_X11_isUnder _ _) (by decide) (by decide) (by decide) rfl (Nat.le_of_ble_eq_true rfl) (fun zr56 σ zh56 => ?_)
          obtain ⟨rfl, rfl⟩ := zh56
          refine g_if_ne (tgt := 74) dX11_quotient_59 (by decide) (fun zc59 => ?_) (fun zc59 => ?_)
          · refine g_iinc (v := _ + (-1)) (ls' := [_, _, _, _, _, _, _, _, _, _, _]) dX11_quotient_74 rfl rfl (by decide) rfl rfl ?_
            refine g_goto (tgt := 10) dX11_quotient_77 (by decide) ?_
            rw [e2]
            first
            | exact absurd zc50 (by decide)
            | exact ih _ _ _ (by omega) (by rw [← qLp_t (Or.inl ((lg_cmp_lt r 0).mp (Int32.not_le.mp zc19)))]; exact hp) rfl
            | exact ih _ _ _ (by omega) (by rw [← qLp_t (Or.inr (bI_eq0.mp zc59))]; exact hp) rfl
            | exact ih _ _ _ (by omega) (by rw [← qLp_f (fun z => z.elim (fun z => absurd ((lg_cmp_ge r 0).mp zc19) (Int64.not_le.mpr z)) (fun z => z (bI_ne0.mp zc59)))]; exact hp) rfl
          · refine g_lload dX11_quotient_62 rfl ?_
            refine g_lload_n (i := 3) dX11_quotient_64 rfl rfl ?_
            refine g_lsub dX11_quotient_65 ?_
            refine g_lstore (ls' := [_, _, _, _, _, _, _, _, _, _, _]) dX11_quotient_66 (by decide) rfl rfl ?_
            refine g_lload dX11_quotient_68 rfl ?_
            refine g_lconst (v := 1) dX11_quotient_70 (by decide) ?_
            refine g_lor dX11_quotient_71 ?_
            refine g_lstore (ls' := [_, _, _, _, _, _, _, _, _, _, _]) dX11_quotient_72 (by decide) rfl rfl ?_
            refine g_iinc (v := _ + (-1)) (ls' := [_, _, _, _, _, _, _, _, _, _, _]) dX11_quotient_74 rfl rfl (by decide) rfl rfl ?_
            refine g_goto (tgt := 10) dX11_quotient_77 (by decide) ?_
            rw [e2]
            first
            | exact absurd zc50 (by decide)
            | exact ih _ _ _ (by omega) (by rw [← qLp_t (Or.inl ((lg_cmp_lt r 0).mp (Int32.not_le.mp zc19)))]; exact hp) rfl
            | exact ih _ _ _ (by omega) (by rw [← qLp_t (Or.inr (bI_eq0.mp zc59))]; exact hp) rfl
            | exact ih _ _ _ (by omega) (by rw [← qLp_f (fun z => z.elim (fun z => absurd ((lg_cmp_ge r 0).mp zc19) (Int64.not_le.mpr z)) (fun z => z (bI_ne0.mp zc59)))]; exact hp) rfl
theorem c_X11_quotient {o : Nat} {ad : Nat → Nat} {S : mS} (hM : Mm σ o ad S) (a b : Int64) : Ct l mX11_quotient 2 0 0 [.ref o, .long a, .long b] σ (pL fun r σ' => r = mQuo a b ∧ Mm σ' o ad (ul S 1 (mRem a b))) := by
  refine Ct_of moX11_quotient [some (.ref o), some (.long a), none, some (.long b), none, none, none, none, none, none, none] rfl (Nat.le_of_ble_eq_true rfl) ?_
  refine g_lconst (v := 0) dX11_quotient_0 (by decide) ?_
  refine g_lstore (ls' := [_, _, _, _, _, _, _, _, _, _, _]) dX11_quotient_1 (by decide) rfl rfl ?_
  refine g_lconst (v := 0) dX11_quotient_3 (by decide) ?_
  refine g_lstore (ls' := [_, _, _, _, _, _, _, _, _, _, _]) dX11_quotient_4 (by decide) rfl rfl ?_
  refine g_bipush (v := 63) dX11_quotient_6 (by decide) ?_
  refine g_istore (ls' := [_, _, _, _, _, _, _, _, _, _, _]) dX11_quotient_8 (by decide) rfl rfl ?_
  exact lp_X11_quotient hM a b 64 0 0 none (by decide) (fun σ' h => ⟨_, rfl, rfl, h⟩) rfl
end CWork
