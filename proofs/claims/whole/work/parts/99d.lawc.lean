/-! the law's twenty-three cases, one by one -/
theorem mkTz_ex (w sg ws : Int32) (d : Int64) : ∃ tz : Nat, mIsA w sg ws d → isTz (mSz w sg d) tz := by
  by_cases h : mIsA w sg ws d
  · obtain ⟨z, hz⟩ := isTz_ex (sz_pos h)
    exact ⟨z, fun _ => hz⟩
  · exact ⟨0, fun z => absurd z h⟩
noncomputable def mkTz (w sg ws : Int32) (d : Int64) : Nat := Classical.choose (mkTz_ex w sg ws d)
theorem mkTz_ok (w sg ws : Int32) (d : Int64) : mIsA w sg ws d → isTz (mSz w sg d) (mkTz w sg ws d) := Classical.choose_spec (mkTz_ex w sg ws d)
theorem prTz_ex (w : Int32) (d : Int64) : ∃ tz : Nat, isW w → ¬ mLow d w = 0 → isTz (mLow d w) tz := by
  by_cases h : mLow d w = 0
  · exact ⟨0, fun _ z => absurd h z⟩
  · obtain ⟨z, hz⟩ := isTz_ex h
    exact ⟨z, fun _ _ => hz⟩
noncomputable def prTz (w : Int32) (d : Int64) : Nat := Classical.choose (prTz_ex w d)
theorem prTz_ok (w : Int32) (d : Int64) : isW w → ¬ mLow d w = 0 → isTz (mLow d w) (prTz w d) := Classical.choose_spec (prTz_ex w d)
theorem Inv.lastC {A : aA} (h : Inv A) : ∀ c, A.2.2.2.2.1.getLast? = some c → okAct A c ∧ (c.1 = 6 → ¬ (A.2.2.2.1 c.2.1).1 = 1) := by
  intro c hc
  have q := (h.last hc).1
  refine ⟨q.act, fun h6 => ?_⟩
  rcases q with q | q | q | q | q | q
  all_goals first | exact q.2.2.2 | (exfalso; have := q.1; omega)
def LX (n L : Nat) : Prop := vp_in (nI n) L ∧ vp_in (nI n + 1) L ∧ vp_in (nI n + 2) L ∧ vp_in (nI n + 3) L ∧ vp_in (nI n + 4) L ∧ vp_in (nI n + 5) L ∧ vp_in (nI n + 6) L ∧ vp_in (nI n + 7) L
theorem LX_of {n L : Nat} (h : n + 8 ≤ L) (hL : L ≤ 4096) : LX n L := by
  have q : ∀ k, k < 8 → vp_in (nI n + nI k) L := fun k hk => by
    rw [nI_add]
    exact vp_in_nI (by omega) (by omega)
  exact ⟨vp_in_nI (by omega) (by omega), q 1 (by decide), q 2 (by decide), q 3 (by decide), q 4 (by decide), q 5 (by decide), q 6 (by decide), q 7 (by decide)⟩
section LawC
variable {l : Launch} {m : Nat} {post : Option Value → gH → Prop} {σ : gH} {b L x o n : Nat} {xs : Nat → Int32} {A : aA}
theorem law_c0 (hW : LW σ x o A A) (hI : Inv A) (hx : LX n L) (kk : ∀ σ' A', LW σ' x o A' A' → Inv A' → GC (sX b L xs) l mL_law 20 (8 * m) (60 * m) post σ' 1414 [some (.ref b), some (.ref x), some (.ref o), some (.int (nI n))] []) : GC (sX b L xs) l mL_law 20 (8 * m + 8) (60 * m + 60) post σ 140 [some (.ref b), some (.ref x), some (.ref o), some (.int (nI n))] [] := by
  obtain ⟨hx0, hx1, hx2, hx3, hx4, hx5, hx6, hx7⟩ := hx
  refine gk_aload_n (i := 1) dL_law_140 rfl rfl ?_
  refine gk_aload_n (i := 0) dL_law_141 rfl rfl ?_
  refine gk_iload_n (i := 3) dL_law_142 rfl rfl ?_
  refine gk_iconst (v := 1) dL_law_143 (by decide) ?_
  refine gk_iadd dL_law_144 ?_
  refine gk_iald dL_law_145 (trivial) (hx1) ?_
  refine lwXi (My := mX10_form) hW [_] dL_law_146 lkL_13 mvX10_form rfl rfl (fun τ hR => c_X10_form hR _) (by decide) (by omega) (by omega) rfl (Nat.le_of_ble_eq_true rfl) (fun σ hW => ?_)
  refine gk_aload_n (i := 2) dL_law_149 rfl rfl ?_
  refine gk_aload_n (i := 0) dL_law_150 rfl rfl ?_
  refine gk_iload_n (i := 3) dL_law_151 rfl rfl ?_
  refine gk_iconst (v := 1) dL_law_152 (by decide) ?_
  refine gk_iadd dL_law_153 ?_
  refine gk_iald dL_law_154 (trivial) (hx1) ?_
  refine lwMi (My := mX11_form) hW [_] dL_law_155 lkL_17 mvX11_form rfl rfl (fun τ ad S hM hR => c_X11_form hM hR _) (by decide) (by omega) (by omega) rfl (Nat.le_of_ble_eq_true rfl) (fun σ hW => ?_)
  refine gk_icmp_eq (tgt := 1414) dL_law_158 (by decide) (fun zc158 => ?_) (fun zc158 => ?_)
  · exact gk_bud (by omega) (by omega) (kk _ _ hW (hI.form _))
  · exact absurd rfl zc158
theorem law_c1 (hW : LW σ x o A A) (hI : Inv A) (hx : LX n L) (kk : ∀ σ' A', LW σ' x o A' A' → Inv A' → GC (sX b L xs) l mL_law 20 (8 * m) (60 * m) post σ' 1414 [some (.ref b), some (.ref x), some (.ref o), some (.int (nI n))] []) : GC (sX b L xs) l mL_law 20 (8 * m + 8) (60 * m + 60) post σ 163 [some (.ref b), some (.ref x), some (.ref o), some (.int (nI n))] [] := by
  obtain ⟨hx0, hx1, hx2, hx3, hx4, hx5, hx6, hx7⟩ := hx
  refine gk_aload_n (i := 1) dL_law_163 rfl rfl ?_
  refine gk_aload_n (i := 0) dL_law_164 rfl rfl ?_
  refine gk_iload_n (i := 3) dL_law_165 rfl rfl ?_
  refine gk_iconst (v := 1) dL_law_166 (by decide) ?_
  refine gk_iadd dL_law_167 ?_
  refine gk_iald dL_law_168 (trivial) (hx1) ?_
  refine gk_aload_n (i := 0) dL_law_169 rfl rfl ?_
  refine gk_iload_n (i := 3) dL_law_170 rfl rfl ?_
  refine gk_iconst (v := 2) dL_law_171 (by decide) ?_
  refine gk_iadd dL_law_172 ?_
  refine gk_iald dL_law_173 (trivial) (hx2) ?_
  refine gk_aload_n (i := 0) dL_law_174 rfl rfl ?_
  refine gk_iload_n (i := 3) dL_law_175 rfl rfl ?_
  refine gk_iconst (v := 3) dL_law_176 (by decide) ?_
  refine gk_iadd dL_law_177 ?_
  refine gk_iald dL_law_178 (trivial) (hx3) ?_
  refine gk_aload_n (i := 0) dL_law_179 rfl rfl ?_
  refine gk_iload_n (i := 3) dL_law_180 rfl rfl ?_
  refine gk_iconst (v := 4) dL_law_181 (by decide) ?_
  refine gk_iadd dL_law_182 ?_
  refine gk_iald dL_law_183 (trivial) (hx4) ?_
  refine gk_i2l dL_law_184 ?_
  refine gk_bipush (v := 32) dL_law_185 (by decide) ?_
  refine gk_lshl dL_law_187 ?_
  refine gk_aload_n (i := 0) dL_law_188 rfl rfl ?_
  refine gk_iload_n (i := 3) dL_law_189 rfl rfl ?_
  refine gk_iconst (v := 5) dL_law_190 (by decide) ?_
  refine gk_iadd dL_law_191 ?_
  refine gk_iald dL_law_192 (trivial) (hx5) ?_
  refine gk_i2l dL_law_193 ?_
  refine gk_ldc2 (v := 4294967295) dL_law_194 klL_18 ?_
  refine gk_land dL_law_197 ?_
  refine gk_lor dL_law_198 ?_
  refine lwXi (My := mX10_step) hW [_, _, _, _] dL_law_199 lkL_20 mvX10_step rfl rfl (fun τ hR => c_X10_step hR hI.wf _ _ _ _) (by decide) (by omega) (by omega) rfl (Nat.le_of_ble_eq_true rfl) (fun σ hW => ?_)
  refine gk_aload_n (i := 2) dL_law_202 rfl rfl ?_
  refine gk_aload_n (i := 0) dL_law_203 rfl rfl ?_
  refine gk_iload_n (i := 3) dL_law_204 rfl rfl ?_
  refine gk_iconst (v := 1) dL_law_205 (by decide) ?_
  refine gk_iadd dL_law_206 ?_
  refine gk_iald dL_law_207 (trivial) (hx1) ?_
  refine gk_aload_n (i := 0) dL_law_208 rfl rfl ?_
  refine gk_iload_n (i := 3) dL_law_209 rfl rfl ?_
  refine gk_iconst (v := 2) dL_law_210 (by decide) ?_
  refine gk_iadd dL_law_211 ?_
  refine gk_iald dL_law_212 (trivial) (hx2) ?_
  refine gk_aload_n (i := 0) dL_law_213 rfl rfl ?_
  refine gk_iload_n (i := 3) dL_law_214 rfl rfl ?_
  refine gk_iconst (v := 3) dL_law_215 (by decide) ?_
  refine gk_iadd dL_law_216 ?_
  refine gk_iald dL_law_217 (trivial) (hx3) ?_
  refine gk_aload_n (i := 0) dL_law_218 rfl rfl ?_
  refine gk_iload_n (i := 3) dL_law_219 rfl rfl ?_
  refine gk_iconst (v := 4) dL_law_220 (by decide) ?_
  refine gk_iadd dL_law_221 ?_
  refine gk_iald dL_law_222 (trivial) (hx4) ?_
  refine gk_i2l dL_law_223 ?_
  refine gk_bipush (v := 32) dL_law_224 (by decide) ?_
  refine gk_lshl dL_law_226 ?_
  refine gk_aload_n (i := 0) dL_law_227 rfl rfl ?_
  refine gk_iload_n (i := 3) dL_law_228 rfl rfl ?_
  refine gk_iconst (v := 5) dL_law_229 (by decide) ?_
  refine gk_iadd dL_law_230 ?_
  refine gk_iald dL_law_231 (trivial) (hx5) ?_
  refine gk_i2l dL_law_232 ?_
  refine gk_ldc2 (v := 4294967295) dL_law_233 klL_18 ?_
  refine gk_land dL_law_236 ?_
  refine gk_lor dL_law_237 ?_
  refine lwMi (My := mX11_step) hW [_, _, _, _] dL_law_238 lkL_24 mvX11_step rfl rfl (fun τ ad S hM hR => c_X11_step hM hR _ _ _ _) (by decide) (by omega) (by omega) rfl (Nat.le_of_ble_eq_true rfl) (fun σ hW => ?_)
  refine gk_icmp_eq (tgt := 1414) dL_law_241 (by decide) (fun zc241 => ?_) (fun zc241 => ?_)
  · exact gk_bud (by omega) (by omega) (kk _ _ hW (hI.sstep _ _ _ _))
  · exact absurd rfl zc241
theorem law_c2 (hW : LW σ x o A A) (hI : Inv A) (hx : LX n L) (kk : ∀ σ' A', LW σ' x o A' A' → Inv A' → GC (sX b L xs) l mL_law 20 (8 * m) (60 * m) post σ' 1414 [some (.ref b), some (.ref x), some (.ref o), some (.int (nI n))] []) : GC (sX b L xs) l mL_law 20 (8 * m + 8) (60 * m + 60) post σ 246 [some (.ref b), some (.ref x), some (.ref o), some (.int (nI n))] [] := by
  obtain ⟨hx0, hx1, hx2, hx3, hx4, hx5, hx6, hx7⟩ := hx
  refine gk_aload_n (i := 1) dL_law_246 rfl rfl ?_
  refine gk_aload_n (i := 0) dL_law_247 rfl rfl ?_
  refine gk_iload_n (i := 3) dL_law_248 rfl rfl ?_
  refine gk_iconst (v := 1) dL_law_249 (by decide) ?_
  refine gk_iadd dL_law_250 ?_
  refine gk_iald dL_law_251 (trivial) (hx1) ?_
  refine gk_aload_n (i := 0) dL_law_252 rfl rfl ?_
  refine gk_iload_n (i := 3) dL_law_253 rfl rfl ?_
  refine gk_iconst (v := 2) dL_law_254 (by decide) ?_
  refine gk_iadd dL_law_255 ?_
  refine gk_iald dL_law_256 (trivial) (hx2) ?_
  refine gk_aload_n (i := 0) dL_law_257 rfl rfl ?_
  refine gk_iload_n (i := 3) dL_law_258 rfl rfl ?_
  refine gk_iconst (v := 3) dL_law_259 (by decide) ?_
  refine gk_iadd dL_law_260 ?_
  refine gk_iald dL_law_261 (trivial) (hx3) ?_
  refine gk_aload_n (i := 0) dL_law_262 rfl rfl ?_
  refine gk_iload_n (i := 3) dL_law_263 rfl rfl ?_
  refine gk_iconst (v := 4) dL_law_264 (by decide) ?_
  refine gk_iadd dL_law_265 ?_
  refine gk_iald dL_law_266 (trivial) (hx4) ?_
  refine gk_i2l dL_law_267 ?_
  refine gk_bipush (v := 32) dL_law_268 (by decide) ?_
  refine gk_lshl dL_law_270 ?_
  refine gk_aload_n (i := 0) dL_law_271 rfl rfl ?_
  refine gk_iload_n (i := 3) dL_law_272 rfl rfl ?_
  refine gk_iconst (v := 5) dL_law_273 (by decide) ?_
  refine gk_iadd dL_law_274 ?_
  refine gk_iald dL_law_275 (trivial) (hx5) ?_
  refine gk_i2l dL_law_276 ?_
  refine gk_ldc2 (v := 4294967295) dL_law_277 klL_18 ?_
  refine gk_land dL_law_280 ?_
  refine gk_lor dL_law_281 ?_
  refine lwXi (My := mX10_make) hW [_, _, _, _] dL_law_282 lkL_25 mvX10_make rfl rfl (fun τ hR => c_X10_make hR _ _ _ _ (mkTz_ok _ _ _ _)) (by decide) (by omega) (by omega) rfl (Nat.le_of_ble_eq_true rfl) (fun σ hW => ?_)
  refine gk_aload_n (i := 2) dL_law_285 rfl rfl ?_
  refine gk_aload_n (i := 0) dL_law_286 rfl rfl ?_
  refine gk_iload_n (i := 3) dL_law_287 rfl rfl ?_
  refine gk_iconst (v := 1) dL_law_288 (by decide) ?_
  refine gk_iadd dL_law_289 ?_
  refine gk_iald dL_law_290 (trivial) (hx1) ?_
  refine gk_aload_n (i := 0) dL_law_291 rfl rfl ?_
  refine gk_iload_n (i := 3) dL_law_292 rfl rfl ?_
  refine gk_iconst (v := 2) dL_law_293 (by decide) ?_
  refine gk_iadd dL_law_294 ?_
  refine gk_iald dL_law_295 (trivial) (hx2) ?_
  refine gk_aload_n (i := 0) dL_law_296 rfl rfl ?_
  refine gk_iload_n (i := 3) dL_law_297 rfl rfl ?_
  refine gk_iconst (v := 3) dL_law_298 (by decide) ?_
  refine gk_iadd dL_law_299 ?_
  refine gk_iald dL_law_300 (trivial) (hx3) ?_
  refine gk_aload_n (i := 0) dL_law_301 rfl rfl ?_
  refine gk_iload_n (i := 3) dL_law_302 rfl rfl ?_
  refine gk_iconst (v := 4) dL_law_303 (by decide) ?_
  refine gk_iadd dL_law_304 ?_
  refine gk_iald dL_law_305 (trivial) (hx4) ?_
  refine gk_i2l dL_law_306 ?_
  refine gk_bipush (v := 32) dL_law_307 (by decide) ?_
  refine gk_lshl dL_law_309 ?_
  refine gk_aload_n (i := 0) dL_law_310 rfl rfl ?_
  refine gk_iload_n (i := 3) dL_law_311 rfl rfl ?_
  refine gk_iconst (v := 5) dL_law_312 (by decide) ?_
  refine gk_iadd dL_law_313 ?_
  refine gk_iald dL_law_314 (trivial) (hx5) ?_
  refine gk_i2l dL_law_315 ?_
  refine gk_ldc2 (v := 4294967295) dL_law_316 klL_18 ?_
  refine gk_land dL_law_319 ?_
  refine gk_lor dL_law_320 ?_
  refine lwMi (My := mX11_make) hW [_, _, _, _] dL_law_321 lkL_28 mvX11_make rfl rfl (fun τ ad S hM hR => c_X11_make hM hR _ _ _ _ (mkTz_ok _ _ _ _)) (by decide) (by omega) (by omega) rfl (Nat.le_of_ble_eq_true rfl) (fun σ hW => ?_)
  refine gk_icmp_eq (tgt := 1414) dL_law_324 (by decide) (fun zc324 => ?_) (fun zc324 => ?_)
  · exact gk_bud (by omega) (by omega) (kk _ _ hW (hI.smake _ _ _ _ (mkTz_ok _ _ _ _)))
  · exact absurd rfl zc324
theorem law_c3 (hW : LW σ x o A A) (hI : Inv A) (hx : LX n L) (kk : ∀ σ' A', LW σ' x o A' A' → Inv A' → GC (sX b L xs) l mL_law 20 (8 * m) (60 * m) post σ' 1414 [some (.ref b), some (.ref x), some (.ref o), some (.int (nI n))] []) : GC (sX b L xs) l mL_law 20 (8 * m + 8) (60 * m + 60) post σ 329 [some (.ref b), some (.ref x), some (.ref o), some (.int (nI n))] [] := by
  obtain ⟨hx0, hx1, hx2, hx3, hx4, hx5, hx6, hx7⟩ := hx
  refine gk_aload_n (i := 1) dL_law_329 rfl rfl ?_
  refine lwXi (My := mX10_drop) hW [] dL_law_330 lkL_29 mvX10_drop rfl rfl (fun τ hR => c_X10_drop hR (fun c hc => ⟨(hI.bd c hc).1, (hI.bd c hc).2.1, Nat.lt_trans (hI.bd c hc).2.2 (by decide)⟩)) (by decide) (by omega) (by omega) rfl (Nat.le_of_ble_eq_true rfl) (fun σ hW => ?_)
  refine gk_aload_n (i := 2) dL_law_333 rfl rfl ?_
  refine lwMi (My := mX11_drop) hW [] dL_law_334 lkL_33 mvX11_drop rfl rfl (fun τ ad S hM hR => c_X11_drop hM hR (fun c hc => ⟨Nat.lt_of_le_of_lt (hI.bd c hc).2.1 (by decide), Nat.lt_trans (hI.bd c hc).2.2 (by decide)⟩)) (by decide) (by omega) (by omega) rfl (Nat.le_of_ble_eq_true rfl) (fun σ hW => ?_)
  refine gk_icmp_eq (tgt := 1414) dL_law_337 (by decide) (fun zc337 => ?_) (fun zc337 => ?_)
  · exact gk_bud (by omega) (by omega) (kk _ _ hW (hI.drop))
  · exact absurd rfl zc337
theorem law_c4 (hW : LW σ x o A A) (hI : Inv A) (hx : LX n L) (kk : ∀ σ' A', LW σ' x o A' A' → Inv A' → GC (sX b L xs) l mL_law 20 (8 * m) (60 * m) post σ' 1414 [some (.ref b), some (.ref x), some (.ref o), some (.int (nI n))] []) : GC (sX b L xs) l mL_law 20 (8 * m + 8) (60 * m + 60) post σ 342 [some (.ref b), some (.ref x), some (.ref o), some (.int (nI n))] [] := by
  obtain ⟨hx0, hx1, hx2, hx3, hx4, hx5, hx6, hx7⟩ := hx
  refine gk_aload_n (i := 1) dL_law_342 rfl rfl ?_
  refine gk_aload_n (i := 0) dL_law_343 rfl rfl ?_
  refine gk_iload_n (i := 3) dL_law_344 rfl rfl ?_
  refine gk_iconst (v := 1) dL_law_345 (by decide) ?_
  refine gk_iadd dL_law_346 ?_
  refine gk_iald dL_law_347 (trivial) (hx1) ?_
  refine lwXi (My := mX10_steps) hW [_] dL_law_348 lkL_34 mvX10_steps rfl rfl (fun τ hR => c_X10_steps hR _) (by decide) (by omega) (by omega) rfl (Nat.le_of_ble_eq_true rfl) (fun σ hW => ?_)
  refine gk_aload_n (i := 2) dL_law_351 rfl rfl ?_
  refine gk_aload_n (i := 0) dL_law_352 rfl rfl ?_
  refine gk_iload_n (i := 3) dL_law_353 rfl rfl ?_
  refine gk_iconst (v := 1) dL_law_354 (by decide) ?_
  refine gk_iadd dL_law_355 ?_
  refine gk_iald dL_law_356 (trivial) (hx1) ?_
  refine lwMi (My := mX11_steps) hW [_] dL_law_357 lkL_37 mvX11_steps rfl rfl (fun τ ad S hM hR => mP_of hM hR (c_X11_steps hM hR _)) (by decide) (by omega) (by omega) rfl (Nat.le_of_ble_eq_true rfl) (fun σ hW => ?_)
  refine gk_icmp_eq (tgt := 1414) dL_law_360 (by decide) (fun zc360 => ?_) (fun zc360 => ?_)
  · exact gk_bud (by omega) (by omega) (kk _ _ hW (hI))
  · exact absurd rfl zc360
theorem law_c5 (hW : LW σ x o A A) (hI : Inv A) (hx : LX n L) (kk : ∀ σ' A', LW σ' x o A' A' → Inv A' → GC (sX b L xs) l mL_law 20 (8 * m) (60 * m) post σ' 1414 [some (.ref b), some (.ref x), some (.ref o), some (.int (nI n))] []) : GC (sX b L xs) l mL_law 20 (8 * m + 8) (60 * m + 60) post σ 365 [some (.ref b), some (.ref x), some (.ref o), some (.int (nI n))] [] := by
  obtain ⟨hx0, hx1, hx2, hx3, hx4, hx5, hx6, hx7⟩ := hx
  refine gk_aload_n (i := 1) dL_law_365 rfl rfl ?_
  refine gk_aload_n (i := 0) dL_law_366 rfl rfl ?_
  refine gk_iload_n (i := 3) dL_law_367 rfl rfl ?_
  refine gk_iconst (v := 1) dL_law_368 (by decide) ?_
  refine gk_iadd dL_law_369 ?_
  refine gk_iald dL_law_370 (trivial) (hx1) ?_
  refine gk_aload_n (i := 0) dL_law_371 rfl rfl ?_
  refine gk_iload_n (i := 3) dL_law_372 rfl rfl ?_
  refine gk_iconst (v := 2) dL_law_373 (by decide) ?_
  refine gk_iadd dL_law_374 ?_
  refine gk_iald dL_law_375 (trivial) (hx2) ?_
  refine gk_aload_n (i := 0) dL_law_376 rfl rfl ?_
  refine gk_iload_n (i := 3) dL_law_377 rfl rfl ?_
  refine gk_iconst (v := 3) dL_law_378 (by decide) ?_
  refine gk_iadd dL_law_379 ?_
  refine gk_iald dL_law_380 (trivial) (hx3) ?_
  refine lwXl (My := mX10_told) hW [_, _, _] dL_law_381 lkL_38 mvX10_told rfl rfl (fun τ hR => c_X10_told hR _ _ _) (by decide) (by omega) (by omega) rfl (Nat.le_of_ble_eq_true rfl) (fun σ hW => ?_)
  refine gk_aload_n (i := 2) dL_law_384 rfl rfl ?_
  refine gk_aload_n (i := 0) dL_law_385 rfl rfl ?_
  refine gk_iload_n (i := 3) dL_law_386 rfl rfl ?_
  refine gk_iconst (v := 1) dL_law_387 (by decide) ?_
  refine gk_iadd dL_law_388 ?_
  refine gk_iald dL_law_389 (trivial) (hx1) ?_
  refine gk_aload_n (i := 0) dL_law_390 rfl rfl ?_
  refine gk_iload_n (i := 3) dL_law_391 rfl rfl ?_
  refine gk_iconst (v := 2) dL_law_392 (by decide) ?_
  refine gk_iadd dL_law_393 ?_
  refine gk_iald dL_law_394 (trivial) (hx2) ?_
  refine gk_aload_n (i := 0) dL_law_395 rfl rfl ?_
  refine gk_iload_n (i := 3) dL_law_396 rfl rfl ?_
  refine gk_iconst (v := 3) dL_law_397 (by decide) ?_
  refine gk_iadd dL_law_398 ?_
  refine gk_iald dL_law_399 (trivial) (hx3) ?_
  refine lwMl (My := mX11_told) hW [_, _, _] dL_law_400 lkL_42 mvX11_told rfl rfl (fun τ ad S hM hR => c_X11_told hM hR _ _ _) (by decide) (by omega) (by omega) rfl (Nat.le_of_ble_eq_true rfl) (fun σ hW => ?_)
  refine gk_lcmp dL_law_403 ?_
  refine gk_if_eq (tgt := 1414) dL_law_404 (by decide) (fun zc404 => ?_) (fun zc404 => ?_)
  · exact gk_bud (by omega) (by omega) (kk _ _ hW (hI))
  · exact absurd ((lg_cmp_eq _ _).mpr rfl) zc404
theorem law_c6 (hW : LW σ x o A A) (hI : Inv A) (hx : LX n L) (kk : ∀ σ' A', LW σ' x o A' A' → Inv A' → GC (sX b L xs) l mL_law 20 (8 * m) (60 * m) post σ' 1414 [some (.ref b), some (.ref x), some (.ref o), some (.int (nI n))] []) : GC (sX b L xs) l mL_law 20 (8 * m + 8) (60 * m + 60) post σ 409 [some (.ref b), some (.ref x), some (.ref o), some (.int (nI n))] [] := by
  obtain ⟨hx0, hx1, hx2, hx3, hx4, hx5, hx6, hx7⟩ := hx
  refine gk_aload_n (i := 1) dL_law_409 rfl rfl ?_
  refine gk_aload_n (i := 0) dL_law_410 rfl rfl ?_
  refine gk_iload_n (i := 3) dL_law_411 rfl rfl ?_
  refine gk_iconst (v := 1) dL_law_412 (by decide) ?_
  refine gk_iadd dL_law_413 ?_
  refine gk_iald dL_law_414 (trivial) (hx1) ?_
  refine lwXi (My := mX10_width) hW [_] dL_law_415 lkL_43 mvX10_width rfl rfl (fun τ hR => c_X10_width hR _) (by decide) (by omega) (by omega) rfl (Nat.le_of_ble_eq_true rfl) (fun σ hW => ?_)
  refine gk_aload_n (i := 2) dL_law_418 rfl rfl ?_
  refine gk_aload_n (i := 0) dL_law_419 rfl rfl ?_
  refine gk_iload_n (i := 3) dL_law_420 rfl rfl ?_
  refine gk_iconst (v := 1) dL_law_421 (by decide) ?_
  refine gk_iadd dL_law_422 ?_
  refine gk_iald dL_law_423 (trivial) (hx1) ?_
  refine lwMi (My := mX11_width) hW [_] dL_law_424 lkL_46 mvX11_width rfl rfl (fun τ ad S hM hR => mP_of hM hR (c_X11_width hM hR _)) (by decide) (by omega) (by omega) rfl (Nat.le_of_ble_eq_true rfl) (fun σ hW => ?_)
  refine gk_icmp_eq (tgt := 1414) dL_law_427 (by decide) (fun zc427 => ?_) (fun zc427 => ?_)
  · exact gk_bud (by omega) (by omega) (kk _ _ hW (hI))
  · exact absurd rfl zc427
theorem law_c7 (hW : LW σ x o A A) (hI : Inv A) (hx : LX n L) (kk : ∀ σ' A', LW σ' x o A' A' → Inv A' → GC (sX b L xs) l mL_law 20 (8 * m) (60 * m) post σ' 1414 [some (.ref b), some (.ref x), some (.ref o), some (.int (nI n))] []) : GC (sX b L xs) l mL_law 20 (8 * m + 8) (60 * m + 60) post σ 432 [some (.ref b), some (.ref x), some (.ref o), some (.int (nI n))] [] := by
  obtain ⟨hx0, hx1, hx2, hx3, hx4, hx5, hx6, hx7⟩ := hx
  refine gk_aload_n (i := 1) dL_law_432 rfl rfl ?_
  refine gk_aload_n (i := 0) dL_law_433 rfl rfl ?_
  refine gk_iload_n (i := 3) dL_law_434 rfl rfl ?_
  refine gk_iconst (v := 1) dL_law_435 (by decide) ?_
  refine gk_iadd dL_law_436 ?_
  refine gk_iald dL_law_437 (trivial) (hx1) ?_
  refine lwXi (My := mX10_cost) hW [_] dL_law_438 lkL_47 mvX10_cost rfl rfl (fun τ hR => c_X10_cost hR hI.wf _) (by decide) (by omega) (by omega) rfl (Nat.le_of_ble_eq_true rfl) (fun σ hW => ?_)
  refine gk_aload_n (i := 2) dL_law_441 rfl rfl ?_
  refine gk_aload_n (i := 0) dL_law_442 rfl rfl ?_
  refine gk_iload_n (i := 3) dL_law_443 rfl rfl ?_
  refine gk_iconst (v := 1) dL_law_444 (by decide) ?_
  refine gk_iadd dL_law_445 ?_
  refine gk_iald dL_law_446 (trivial) (hx1) ?_
  refine lwMi (My := mX11_cost) hW [_] dL_law_447 lkL_50 mvX11_cost rfl rfl (fun τ ad S hM hR => c_X11_cost hM hR hI.wf _) (by decide) (by omega) (by omega) rfl (Nat.le_of_ble_eq_true rfl) (fun σ hW => ?_)
  refine gk_icmp_eq (tgt := 1414) dL_law_450 (by decide) (fun zc450 => ?_) (fun zc450 => ?_)
  · exact gk_bud (by omega) (by omega) (kk _ _ hW (hI))
  · exact absurd rfl zc450
theorem law_c8 (hW : LW σ x o A A) (hI : Inv A) (hx : LX n L) (kk : ∀ σ' A', LW σ' x o A' A' → Inv A' → GC (sX b L xs) l mL_law 20 (8 * m) (60 * m) post σ' 1414 [some (.ref b), some (.ref x), some (.ref o), some (.int (nI n))] []) : GC (sX b L xs) l mL_law 20 (8 * m + 8) (60 * m + 60) post σ 455 [some (.ref b), some (.ref x), some (.ref o), some (.int (nI n))] [] := by
  obtain ⟨hx0, hx1, hx2, hx3, hx4, hx5, hx6, hx7⟩ := hx
  refine gk_aload_n (i := 1) dL_law_455 rfl rfl ?_
  refine gk_aload_n (i := 0) dL_law_456 rfl rfl ?_
  refine gk_iload_n (i := 3) dL_law_457 rfl rfl ?_
  refine gk_iconst (v := 1) dL_law_458 (by decide) ?_
  refine gk_iadd dL_law_459 ?_
  refine gk_iald dL_law_460 (trivial) (hx1) ?_
  refine gk_aload_n (i := 0) dL_law_461 rfl rfl ?_
  refine gk_iload_n (i := 3) dL_law_462 rfl rfl ?_
  refine gk_iconst (v := 2) dL_law_463 (by decide) ?_
  refine gk_iadd dL_law_464 ?_
  refine gk_iald dL_law_465 (trivial) (hx2) ?_
  refine lwXi (My := mX10_price) hW [_, _] dL_law_466 lkL_51 mvX10_price rfl rfl (fun τ hR => c_X10_price hR _ _) (by decide) (by omega) (by omega) rfl (Nat.le_of_ble_eq_true rfl) (fun σ hW => ?_)
  refine gk_aload_n (i := 2) dL_law_469 rfl rfl ?_
  refine gk_aload_n (i := 0) dL_law_470 rfl rfl ?_
  refine gk_iload_n (i := 3) dL_law_471 rfl rfl ?_
  refine gk_iconst (v := 1) dL_law_472 (by decide) ?_
  refine gk_iadd dL_law_473 ?_
  refine gk_iald dL_law_474 (trivial) (hx1) ?_
  refine gk_aload_n (i := 0) dL_law_475 rfl rfl ?_
  refine gk_iload_n (i := 3) dL_law_476 rfl rfl ?_
  refine gk_iconst (v := 2) dL_law_477 (by decide) ?_
  refine gk_iadd dL_law_478 ?_
  refine gk_iald dL_law_479 (trivial) (hx2) ?_
  refine lwMi (My := mX11_price) hW [_, _] dL_law_480 lkL_55 mvX11_price rfl rfl (fun τ ad S hM hR => c_X11_price hM hR _ _) (by decide) (by omega) (by omega) rfl (Nat.le_of_ble_eq_true rfl) (fun σ hW => ?_)
  refine gk_icmp_eq (tgt := 1414) dL_law_483 (by decide) (fun zc483 => ?_) (fun zc483 => ?_)
  · exact gk_bud (by omega) (by omega) (kk _ _ hW (hI.sprice _ _))
  · exact absurd rfl zc483
theorem law_c9 (hW : LW σ x o A A) (hI : Inv A) (hx : LX n L) (kk : ∀ σ' A', LW σ' x o A' A' → Inv A' → GC (sX b L xs) l mL_law 20 (8 * m) (60 * m) post σ' 1414 [some (.ref b), some (.ref x), some (.ref o), some (.int (nI n))] []) : GC (sX b L xs) l mL_law 20 (8 * m + 8) (60 * m + 60) post σ 488 [some (.ref b), some (.ref x), some (.ref o), some (.int (nI n))] [] := by
  obtain ⟨hx0, hx1, hx2, hx3, hx4, hx5, hx6, hx7⟩ := hx
  refine gk_aload_n (i := 1) dL_law_488 rfl rfl ?_
  refine gk_aload_n (i := 0) dL_law_489 rfl rfl ?_
  refine gk_iload_n (i := 3) dL_law_490 rfl rfl ?_
  refine gk_iconst (v := 1) dL_law_491 (by decide) ?_
  refine gk_iadd dL_law_492 ?_
  refine gk_iald dL_law_493 (trivial) (hx1) ?_
  refine gk_aload_n (i := 0) dL_law_494 rfl rfl ?_
  refine gk_iload_n (i := 3) dL_law_495 rfl rfl ?_
  refine gk_iconst (v := 2) dL_law_496 (by decide) ?_
  refine gk_iadd dL_law_497 ?_
  refine gk_iald dL_law_498 (trivial) (hx2) ?_
  refine gk_i2l dL_law_499 ?_
  refine gk_bipush (v := 32) dL_law_500 (by decide) ?_
  refine gk_lshl dL_law_502 ?_
  refine gk_aload_n (i := 0) dL_law_503 rfl rfl ?_
  refine gk_iload_n (i := 3) dL_law_504 rfl rfl ?_
  refine gk_iconst (v := 3) dL_law_505 (by decide) ?_
  refine gk_iadd dL_law_506 ?_
  refine gk_iald dL_law_507 (trivial) (hx3) ?_
  refine gk_i2l dL_law_508 ?_
  refine gk_ldc2 (v := 4294967295) dL_law_509 klL_18 ?_
  refine gk_land dL_law_512 ?_
  refine gk_lor dL_law_513 ?_
  refine lwXl (My := mX10_run) hW [_, _] dL_law_514 lkL_56 mvX10_run rfl rfl (fun τ hR => c_X10_run hR hI.wf _ _) (by decide) (by omega) (by omega) rfl (Nat.le_of_ble_eq_true rfl) (fun σ hW => ?_)
  refine gk_aload_n (i := 2) dL_law_517 rfl rfl ?_
  refine gk_aload_n (i := 0) dL_law_518 rfl rfl ?_
  refine gk_iload_n (i := 3) dL_law_519 rfl rfl ?_
  refine gk_iconst (v := 1) dL_law_520 (by decide) ?_
  refine gk_iadd dL_law_521 ?_
  refine gk_iald dL_law_522 (trivial) (hx1) ?_
  refine gk_aload_n (i := 0) dL_law_523 rfl rfl ?_
  refine gk_iload_n (i := 3) dL_law_524 rfl rfl ?_
  refine gk_iconst (v := 2) dL_law_525 (by decide) ?_
  refine gk_iadd dL_law_526 ?_
  refine gk_iald dL_law_527 (trivial) (hx2) ?_
  refine gk_i2l dL_law_528 ?_
  refine gk_bipush (v := 32) dL_law_529 (by decide) ?_
  refine gk_lshl dL_law_531 ?_
  refine gk_aload_n (i := 0) dL_law_532 rfl rfl ?_
  refine gk_iload_n (i := 3) dL_law_533 rfl rfl ?_
  refine gk_iconst (v := 3) dL_law_534 (by decide) ?_
  refine gk_iadd dL_law_535 ?_
  refine gk_iald dL_law_536 (trivial) (hx3) ?_
  refine gk_i2l dL_law_537 ?_
  refine gk_ldc2 (v := 4294967295) dL_law_538 klL_18 ?_
  refine gk_land dL_law_541 ?_
  refine gk_lor dL_law_542 ?_
  refine lwMl (My := mX11_run) hW [_, _] dL_law_543 lkL_60 mvX11_run rfl rfl (fun τ ad S hM hR => c_X11_run hM hR hI.wf _ _) (by decide) (by omega) (by omega) rfl (Nat.le_of_ble_eq_true rfl) (fun σ hW => ?_)
  refine gk_lcmp dL_law_546 ?_
  refine gk_if_eq (tgt := 1414) dL_law_547 (by decide) (fun zc547 => ?_) (fun zc547 => ?_)
  · exact gk_bud (by omega) (by omega) (kk _ _ hW (hI))
  · exact absurd ((lg_cmp_eq _ _).mpr rfl) zc547
theorem law_c10 (hW : LW σ x o A A) (hI : Inv A) (hx : LX n L) (kk : ∀ σ' A', LW σ' x o A' A' → Inv A' → GC (sX b L xs) l mL_law 20 (8 * m) (60 * m) post σ' 1414 [some (.ref b), some (.ref x), some (.ref o), some (.int (nI n))] []) : GC (sX b L xs) l mL_law 20 (8 * m + 8) (60 * m + 60) post σ 552 [some (.ref b), some (.ref x), some (.ref o), some (.int (nI n))] [] := by
  obtain ⟨hx0, hx1, hx2, hx3, hx4, hx5, hx6, hx7⟩ := hx
  refine gk_aload_n (i := 1) dL_law_552 rfl rfl ?_
  refine gk_aload_n (i := 0) dL_law_553 rfl rfl ?_
  refine gk_iload_n (i := 3) dL_law_554 rfl rfl ?_
  refine gk_iconst (v := 1) dL_law_555 (by decide) ?_
  refine gk_iadd dL_law_556 ?_
  refine gk_iald dL_law_557 (trivial) (hx1) ?_
  refine gk_aload_n (i := 0) dL_law_558 rfl rfl ?_
  refine gk_iload_n (i := 3) dL_law_559 rfl rfl ?_
  refine gk_iconst (v := 2) dL_law_560 (by decide) ?_
  refine gk_iadd dL_law_561 ?_
  refine gk_iald dL_law_562 (trivial) (hx2) ?_
  refine gk_i2l dL_law_563 ?_
  refine gk_bipush (v := 32) dL_law_564 (by decide) ?_
  refine gk_lshl dL_law_566 ?_
  refine gk_aload_n (i := 0) dL_law_567 rfl rfl ?_
  refine gk_iload_n (i := 3) dL_law_568 rfl rfl ?_
  refine gk_iconst (v := 3) dL_law_569 (by decide) ?_
  refine gk_iadd dL_law_570 ?_
  refine gk_iald dL_law_571 (trivial) (hx3) ?_
  refine gk_i2l dL_law_572 ?_
  refine gk_ldc2 (v := 4294967295) dL_law_573 klL_18 ?_
  refine gk_land dL_law_576 ?_
  refine gk_lor dL_law_577 ?_
  refine gk_aload_n (i := 0) dL_law_578 rfl rfl ?_
  refine gk_iload_n (i := 3) dL_law_579 rfl rfl ?_
  refine gk_iconst (v := 4) dL_law_580 (by decide) ?_
  refine gk_iadd dL_law_581 ?_
  refine gk_iald dL_law_582 (trivial) (hx4) ?_
  refine lwXl (My := mX10_end) hW [_, _, _] dL_law_583 lkL_61 mvX10_end rfl rfl (fun τ hR => c_X10_end hR hI.wf _ _ _) (by decide) (by omega) (by omega) rfl (Nat.le_of_ble_eq_true rfl) (fun σ hW => ?_)
  refine gk_aload_n (i := 2) dL_law_586 rfl rfl ?_
  refine gk_aload_n (i := 0) dL_law_587 rfl rfl ?_
  refine gk_iload_n (i := 3) dL_law_588 rfl rfl ?_
  refine gk_iconst (v := 1) dL_law_589 (by decide) ?_
  refine gk_iadd dL_law_590 ?_
  refine gk_iald dL_law_591 (trivial) (hx1) ?_
  refine gk_aload_n (i := 0) dL_law_592 rfl rfl ?_
  refine gk_iload_n (i := 3) dL_law_593 rfl rfl ?_
  refine gk_iconst (v := 2) dL_law_594 (by decide) ?_
  refine gk_iadd dL_law_595 ?_
  refine gk_iald dL_law_596 (trivial) (hx2) ?_
  refine gk_i2l dL_law_597 ?_
  refine gk_bipush (v := 32) dL_law_598 (by decide) ?_
  refine gk_lshl dL_law_600 ?_
  refine gk_aload_n (i := 0) dL_law_601 rfl rfl ?_
  refine gk_iload_n (i := 3) dL_law_602 rfl rfl ?_
  refine gk_iconst (v := 3) dL_law_603 (by decide) ?_
  refine gk_iadd dL_law_604 ?_
  refine gk_iald dL_law_605 (trivial) (hx3) ?_
  refine gk_i2l dL_law_606 ?_
  refine gk_ldc2 (v := 4294967295) dL_law_607 klL_18 ?_
  refine gk_land dL_law_610 ?_
  refine gk_lor dL_law_611 ?_
  refine gk_aload_n (i := 0) dL_law_612 rfl rfl ?_
  refine gk_iload_n (i := 3) dL_law_613 rfl rfl ?_
  refine gk_iconst (v := 4) dL_law_614 (by decide) ?_
  refine gk_iadd dL_law_615 ?_
  refine gk_iald dL_law_616 (trivial) (hx4) ?_
  refine lwMl (My := mX11_end) hW [_, _, _] dL_law_617 lkL_65 mvX11_end rfl rfl (fun τ ad S hM hR => c_X11_end hM hR hI.wf _ _ _) (by decide) (by omega) (by omega) rfl (Nat.le_of_ble_eq_true rfl) (fun σ hW => ?_)
  refine gk_lcmp dL_law_620 ?_
  refine gk_if_eq (tgt := 1414) dL_law_621 (by decide) (fun zc621 => ?_) (fun zc621 => ?_)
  · exact gk_bud (by omega) (by omega) (kk _ _ hW (hI))
  · exact absurd ((lg_cmp_eq _ _).mpr rfl) zc621
theorem law_c11 (hW : LW σ x o A A) (hI : Inv A) (hx : LX n L) (kk : ∀ σ' A', LW σ' x o A' A' → Inv A' → GC (sX b L xs) l mL_law 20 (8 * m) (60 * m) post σ' 1414 [some (.ref b), some (.ref x), some (.ref o), some (.int (nI n))] []) : GC (sX b L xs) l mL_law 20 (8 * m + 8) (60 * m + 60) post σ 626 [some (.ref b), some (.ref x), some (.ref o), some (.int (nI n))] [] := by
  obtain ⟨hx0, hx1, hx2, hx3, hx4, hx5, hx6, hx7⟩ := hx
  refine gk_aload_n (i := 1) dL_law_626 rfl rfl ?_
  refine gk_aload_n (i := 0) dL_law_627 rfl rfl ?_
  refine gk_iload_n (i := 3) dL_law_628 rfl rfl ?_
  refine gk_iconst (v := 1) dL_law_629 (by decide) ?_
  refine gk_iadd dL_law_630 ?_
  refine gk_iald dL_law_631 (trivial) (hx1) ?_
  refine gk_aload_n (i := 0) dL_law_632 rfl rfl ?_
  refine gk_iload_n (i := 3) dL_law_633 rfl rfl ?_
  refine gk_iconst (v := 2) dL_law_634 (by decide) ?_
  refine gk_iadd dL_law_635 ?_
  refine gk_iald dL_law_636 (trivial) (hx2) ?_
  refine gk_aload_n (i := 0) dL_law_637 rfl rfl ?_
  refine gk_iload_n (i := 3) dL_law_638 rfl rfl ?_
  refine gk_iconst (v := 3) dL_law_639 (by decide) ?_
  refine gk_iadd dL_law_640 ?_
  refine gk_iald dL_law_641 (trivial) (hx3) ?_
  refine gk_aload_n (i := 0) dL_law_642 rfl rfl ?_
  refine gk_iload_n (i := 3) dL_law_643 rfl rfl ?_
  refine gk_iconst (v := 4) dL_law_644 (by decide) ?_
  refine gk_iadd dL_law_645 ?_
  refine gk_iald dL_law_646 (trivial) (hx4) ?_
  refine gk_i2l dL_law_647 ?_
  refine gk_bipush (v := 32) dL_law_648 (by decide) ?_
  refine gk_lshl dL_law_650 ?_
  refine gk_aload_n (i := 0) dL_law_651 rfl rfl ?_
  refine gk_iload_n (i := 3) dL_law_652 rfl rfl ?_
  refine gk_iconst (v := 5) dL_law_653 (by decide) ?_
  refine gk_iadd dL_law_654 ?_
  refine gk_iald dL_law_655 (trivial) (hx5) ?_
  refine gk_i2l dL_law_656 ?_
  refine gk_ldc2 (v := 4294967295) dL_law_657 klL_18 ?_
  refine gk_land dL_law_660 ?_
  refine gk_lor dL_law_661 ?_
  refine lwXi (My := mX10_fails) hW [_, _, _, _] dL_law_662 lkL_66 mvX10_fails rfl rfl (fun τ hR => c_X10_fails hR hI.wf _ _ _ _) (by decide) (by omega) (by omega) rfl (Nat.le_of_ble_eq_true rfl) (fun σ hW => ?_)
  refine gk_aload_n (i := 2) dL_law_665 rfl rfl ?_
  refine gk_aload_n (i := 0) dL_law_666 rfl rfl ?_
  refine gk_iload_n (i := 3) dL_law_667 rfl rfl ?_
  refine gk_iconst (v := 1) dL_law_668 (by decide) ?_
  refine gk_iadd dL_law_669 ?_
  refine gk_iald dL_law_670 (trivial) (hx1) ?_
  refine gk_aload_n (i := 0) dL_law_671 rfl rfl ?_
  refine gk_iload_n (i := 3) dL_law_672 rfl rfl ?_
  refine gk_iconst (v := 2) dL_law_673 (by decide) ?_
  refine gk_iadd dL_law_674 ?_
  refine gk_iald dL_law_675 (trivial) (hx2) ?_
  refine gk_aload_n (i := 0) dL_law_676 rfl rfl ?_
  refine gk_iload_n (i := 3) dL_law_677 rfl rfl ?_
  refine gk_iconst (v := 3) dL_law_678 (by decide) ?_
  refine gk_iadd dL_law_679 ?_
  refine gk_iald dL_law_680 (trivial) (hx3) ?_
  refine gk_aload_n (i := 0) dL_law_681 rfl rfl ?_
  refine gk_iload_n (i := 3) dL_law_682 rfl rfl ?_
  refine gk_iconst (v := 4) dL_law_683 (by decide) ?_
  refine gk_iadd dL_law_684 ?_
  refine gk_iald dL_law_685 (trivial) (hx4) ?_
  refine gk_i2l dL_law_686 ?_
  refine gk_bipush (v := 32) dL_law_687 (by decide) ?_
  refine gk_lshl dL_law_689 ?_
  refine gk_aload_n (i := 0) dL_law_690 rfl rfl ?_
  refine gk_iload_n (i := 3) dL_law_691 rfl rfl ?_
  refine gk_iconst (v := 5) dL_law_692 (by decide) ?_
  refine gk_iadd dL_law_693 ?_
  refine gk_iald dL_law_694 (trivial) (hx5) ?_
  refine gk_i2l dL_law_695 ?_
  refine gk_ldc2 (v := 4294967295) dL_law_696 klL_18 ?_
  refine gk_land dL_law_699 ?_
  refine gk_lor dL_law_700 ?_
  refine lwMi (My := mX11_fails) hW [_, _, _, _] dL_law_701 lkL_69 mvX11_fails rfl rfl (fun τ ad S hM hR => c_X11_fails hM hR hI.wf _ _ _ _) (by decide) (by omega) (by omega) rfl (Nat.le_of_ble_eq_true rfl) (fun σ hW => ?_)
  refine gk_icmp_eq (tgt := 1414) dL_law_704 (by decide) (fun zc704 => ?_) (fun zc704 => ?_)
  · exact gk_bud (by omega) (by omega) (kk _ _ hW (hI))
  · exact absurd rfl zc704
theorem law_c12 (hW : LW σ x o A A) (hI : Inv A) (hx : LX n L) (kk : ∀ σ' A', LW σ' x o A' A' → Inv A' → GC (sX b L xs) l mL_law 20 (8 * m) (60 * m) post σ' 1414 [some (.ref b), some (.ref x), some (.ref o), some (.int (nI n))] []) : GC (sX b L xs) l mL_law 20 (8 * m + 8) (60 * m + 60) post σ 709 [some (.ref b), some (.ref x), some (.ref o), some (.int (nI n))] [] := by
  obtain ⟨hx0, hx1, hx2, hx3, hx4, hx5, hx6, hx7⟩ := hx
  refine gk_aload_n (i := 1) dL_law_709 rfl rfl ?_
  refine gk_aload_n (i := 0) dL_law_710 rfl rfl ?_
  refine gk_iload_n (i := 3) dL_law_711 rfl rfl ?_
  refine gk_iconst (v := 1) dL_law_712 (by decide) ?_
  refine gk_iadd dL_law_713 ?_
  refine gk_iald dL_law_714 (trivial) (hx1) ?_
  refine gk_aload_n (i := 0) dL_law_715 rfl rfl ?_
  refine gk_iload_n (i := 3) dL_law_716 rfl rfl ?_
  refine gk_iconst (v := 2) dL_law_717 (by decide) ?_
  refine gk_iadd dL_law_718 ?_
  refine gk_iald dL_law_719 (trivial) (hx2) ?_
  refine gk_aload_n (i := 0) dL_law_720 rfl rfl ?_
  refine gk_iload_n (i := 3) dL_law_721 rfl rfl ?_
  refine gk_iconst (v := 3) dL_law_722 (by decide) ?_
  refine gk_iadd dL_law_723 ?_
  refine gk_iald dL_law_724 (trivial) (hx3) ?_
  refine gk_aload_n (i := 0) dL_law_725 rfl rfl ?_
  refine gk_iload_n (i := 3) dL_law_726 rfl rfl ?_
  refine gk_iconst (v := 4) dL_law_727 (by decide) ?_
  refine gk_iadd dL_law_728 ?_
  refine gk_iald dL_law_729 (trivial) (hx4) ?_
  refine gk_i2l dL_law_730 ?_
  refine gk_bipush (v := 32) dL_law_731 (by decide) ?_
  refine gk_lshl dL_law_733 ?_
  refine gk_aload_n (i := 0) dL_law_734 rfl rfl ?_
  refine gk_iload_n (i := 3) dL_law_735 rfl rfl ?_
  refine gk_iconst (v := 5) dL_law_736 (by decide) ?_
  refine gk_iadd dL_law_737 ?_
  refine gk_iald dL_law_738 (trivial) (hx5) ?_
  refine gk_i2l dL_law_739 ?_
  refine gk_ldc2 (v := 4294967295) dL_law_740 klL_18 ?_
  refine gk_land dL_law_743 ?_
  refine gk_lor dL_law_744 ?_
  refine gk_aload_n (i := 0) dL_law_745 rfl rfl ?_
  refine gk_iload_n (i := 3) dL_law_746 rfl rfl ?_
  refine gk_bipush (v := 6) dL_law_747 (by decide) ?_
  refine gk_iadd dL_law_749 ?_
  refine gk_iald dL_law_750 (trivial) (hx6) ?_
  refine gk_i2l dL_law_751 ?_
  refine gk_bipush (v := 32) dL_law_752 (by decide) ?_
  refine gk_lshl dL_law_754 ?_
  refine gk_aload_n (i := 0) dL_law_755 rfl rfl ?_
  refine gk_iload_n (i := 3) dL_law_756 rfl rfl ?_
  refine gk_bipush (v := 7) dL_law_757 (by decide) ?_
  refine gk_iadd dL_law_759 ?_
  refine gk_iald dL_law_760 (trivial) (hx7) ?_
  refine gk_i2l dL_law_761 ?_
  refine gk_ldc2 (v := 4294967295) dL_law_762 klL_18 ?_
  refine gk_land dL_law_765 ?_
  refine gk_lor dL_law_766 ?_
  refine lwXl (My := mX10_plain) hW [_, _, _, _, _] dL_law_767 lkL_70 mvX10_plain rfl rfl (fun τ hR => c_X10_plain hR _ _ _ _ _) (by decide) (by omega) (by omega) rfl (Nat.le_of_ble_eq_true rfl) (fun σ hW => ?_)
  refine gk_aload_n (i := 2) dL_law_770 rfl rfl ?_
  refine gk_aload_n (i := 0) dL_law_771 rfl rfl ?_
  refine gk_iload_n (i := 3) dL_law_772 rfl rfl ?_
  refine gk_iconst (v := 1) dL_law_773 (by decide) ?_
  refine gk_iadd dL_law_774 ?_
  refine gk_iald dL_law_775 (trivial) (hx1) ?_
  refine gk_aload_n (i := 0) dL_law_776 rfl rfl ?_
  refine gk_iload_n (i := 3) dL_law_777 rfl rfl ?_
  refine gk_iconst (v := 2) dL_law_778 (by decide) ?_
  refine gk_iadd dL_law_779 ?_
  refine gk_iald dL_law_780 (trivial) (hx2) ?_
  refine gk_aload_n (i := 0) dL_law_781 rfl rfl ?_
  refine gk_iload_n (i := 3) dL_law_782 rfl rfl ?_
  refine gk_iconst (v := 3) dL_law_783 (by decide) ?_
  refine gk_iadd dL_law_784 ?_
  refine gk_iald dL_law_785 (trivial) (hx3) ?_
  refine gk_aload_n (i := 0) dL_law_786 rfl rfl ?_
  refine gk_iload_n (i := 3) dL_law_787 rfl rfl ?_
  refine gk_iconst (v := 4) dL_law_788 (by decide) ?_
  refine gk_iadd dL_law_789 ?_
  refine gk_iald dL_law_790 (trivial) (hx4) ?_
  refine gk_i2l dL_law_791 ?_
  refine gk_bipush (v := 32) dL_law_792 (by decide) ?_
  refine gk_lshl dL_law_794 ?_
  refine gk_aload_n (i := 0) dL_law_795 rfl rfl ?_
  refine gk_iload_n (i := 3) dL_law_796 rfl rfl ?_
  refine gk_iconst (v := 5) dL_law_797 (by decide) ?_
  refine gk_iadd dL_law_798 ?_
  refine gk_iald dL_law_799 (trivial) (hx5) ?_
  refine gk_i2l dL_law_800 ?_
  refine gk_ldc2 (v := 4294967295) dL_law_801 klL_18 ?_
  refine gk_land dL_law_804 ?_
  refine gk_lor dL_law_805 ?_
  refine gk_aload_n (i := 0) dL_law_806 rfl rfl ?_
  refine gk_iload_n (i := 3) dL_law_807 rfl rfl ?_
  refine gk_bipush (v := 6) dL_law_808 (by decide) ?_
  refine gk_iadd dL_law_810 ?_
  refine gk_iald dL_law_811 (trivial) (hx6) ?_
  refine gk_i2l dL_law_812 ?_
  refine gk_bipush (v := 32) dL_law_813 (by decide) ?_
  refine gk_lshl dL_law_815 ?_
  refine gk_aload_n (i := 0) dL_law_816 rfl rfl ?_
  refine gk_iload_n (i := 3) dL_law_817 rfl rfl ?_
  refine gk_bipush (v := 7) dL_law_818 (by decide) ?_
  refine gk_iadd dL_law_820 ?_
  refine gk_iald dL_law_821 (trivial) (hx7) ?_
  refine gk_i2l dL_law_822 ?_
  refine gk_ldc2 (v := 4294967295) dL_law_823 klL_18 ?_
  refine gk_land dL_law_826 ?_
  refine gk_lor dL_law_827 ?_
  refine lwMl (My := mX11_plain) hW [_, _, _, _, _] dL_law_828 lkL_74 mvX11_plain rfl rfl (fun τ ad S hM hR => c_X11_plain hM hR _ _ _ _ _) (by decide) (by omega) (by omega) rfl (Nat.le_of_ble_eq_true rfl) (fun σ hW => ?_)
  refine gk_lcmp dL_law_831 ?_
  refine gk_if_eq (tgt := 1414) dL_law_832 (by decide) (fun zc832 => ?_) (fun zc832 => ?_)
  · exact gk_bud (by omega) (by omega) (kk _ _ hW (hI))
  · exact absurd ((lg_cmp_eq _ _).mpr rfl) zc832
theorem law_c13 (hW : LW σ x o A A) (hI : Inv A) (hx : LX n L) (kk : ∀ σ' A', LW σ' x o A' A' → Inv A' → GC (sX b L xs) l mL_law 20 (8 * m) (60 * m) post σ' 1414 [some (.ref b), some (.ref x), some (.ref o), some (.int (nI n))] []) : GC (sX b L xs) l mL_law 20 (8 * m + 8) (60 * m + 60) post σ 837 [some (.ref b), some (.ref x), some (.ref o), some (.int (nI n))] [] := by
  obtain ⟨hx0, hx1, hx2, hx3, hx4, hx5, hx6, hx7⟩ := hx
  refine gk_aload_n (i := 1) dL_law_837 rfl rfl ?_
  refine gk_aload_n (i := 0) dL_law_838 rfl rfl ?_
  refine gk_iload_n (i := 3) dL_law_839 rfl rfl ?_
  refine gk_iconst (v := 1) dL_law_840 (by decide) ?_
  refine gk_iadd dL_law_841 ?_
  refine gk_iald dL_law_842 (trivial) (hx1) ?_
  refine gk_aload_n (i := 0) dL_law_843 rfl rfl ?_
  refine gk_iload_n (i := 3) dL_law_844 rfl rfl ?_
  refine gk_iconst (v := 2) dL_law_845 (by decide) ?_
  refine gk_iadd dL_law_846 ?_
  refine gk_iald dL_law_847 (trivial) (hx2) ?_
  refine gk_i2l dL_law_848 ?_
  refine gk_bipush (v := 32) dL_law_849 (by decide) ?_
  refine gk_lshl dL_law_851 ?_
  refine gk_aload_n (i := 0) dL_law_852 rfl rfl ?_
  refine gk_iload_n (i := 3) dL_law_853 rfl rfl ?_
  refine gk_iconst (v := 3) dL_law_854 (by decide) ?_
  refine gk_iadd dL_law_855 ?_
  refine gk_iald dL_law_856 (trivial) (hx3) ?_
  refine gk_i2l dL_law_857 ?_
  refine gk_ldc2 (v := 4294967295) dL_law_858 klL_18 ?_
  refine gk_land dL_law_861 ?_
  refine gk_lor dL_law_862 ?_
  refine gk_aload_n (i := 0) dL_law_863 rfl rfl ?_
  refine gk_iload_n (i := 3) dL_law_864 rfl rfl ?_
  refine gk_iconst (v := 4) dL_law_865 (by decide) ?_
  refine gk_iadd dL_law_866 ?_
  refine gk_iald dL_law_867 (trivial) (hx4) ?_
  refine lwXl (My := mX10_proof) hW [_, _, _] dL_law_868 lkL_75 mvX10_proof rfl rfl (fun τ hR => c_X10_proof hR _ _ _ (prTz_ok _ _)) (by decide) (by omega) (by omega) rfl (Nat.le_of_ble_eq_true rfl) (fun σ hW => ?_)
  refine gk_aload_n (i := 2) dL_law_871 rfl rfl ?_
  refine gk_aload_n (i := 0) dL_law_872 rfl rfl ?_
  refine gk_iload_n (i := 3) dL_law_873 rfl rfl ?_
  refine gk_iconst (v := 1) dL_law_874 (by decide) ?_
  refine gk_iadd dL_law_875 ?_
  refine gk_iald dL_law_876 (trivial) (hx1) ?_
  refine gk_aload_n (i := 0) dL_law_877 rfl rfl ?_
  refine gk_iload_n (i := 3) dL_law_878 rfl rfl ?_
  refine gk_iconst (v := 2) dL_law_879 (by decide) ?_
  refine gk_iadd dL_law_880 ?_
  refine gk_iald dL_law_881 (trivial) (hx2) ?_
  refine gk_i2l dL_law_882 ?_
  refine gk_bipush (v := 32) dL_law_883 (by decide) ?_
  refine gk_lshl dL_law_885 ?_
  refine gk_aload_n (i := 0) dL_law_886 rfl rfl ?_
  refine gk_iload_n (i := 3) dL_law_887 rfl rfl ?_
  refine gk_iconst (v := 3) dL_law_888 (by decide) ?_
  refine gk_iadd dL_law_889 ?_
  refine gk_iald dL_law_890 (trivial) (hx3) ?_
  refine gk_i2l dL_law_891 ?_
  refine gk_ldc2 (v := 4294967295) dL_law_892 klL_18 ?_
  refine gk_land dL_law_895 ?_
  refine gk_lor dL_law_896 ?_
  refine gk_aload_n (i := 0) dL_law_897 rfl rfl ?_
  refine gk_iload_n (i := 3) dL_law_898 rfl rfl ?_
  refine gk_iconst (v := 4) dL_law_899 (by decide) ?_
  refine gk_iadd dL_law_900 ?_
  refine gk_iald dL_law_901 (trivial) (hx4) ?_
  refine lwMl (My := mX11_proof) hW [_, _, _] dL_law_902 lkL_78 mvX11_proof rfl rfl (fun τ ad S hM hR => c_X11_proof hM hR _ _ _ (prTz_ok _ _)) (by decide) (by omega) (by omega) rfl (Nat.le_of_ble_eq_true rfl) (fun σ hW => ?_)
  refine gk_lcmp dL_law_905 ?_
  refine gk_if_eq (tgt := 1414) dL_law_906 (by decide) (fun zc906 => ?_) (fun zc906 => ?_)
  · exact gk_bud (by omega) (by omega) (kk _ _ hW (hI))
  · exact absurd ((lg_cmp_eq _ _).mpr rfl) zc906
theorem law_c14 (hW : LW σ x o A A) (hI : Inv A) (hx : LX n L) (kk : ∀ σ' A', LW σ' x o A' A' → Inv A' → GC (sX b L xs) l mL_law 20 (8 * m) (60 * m) post σ' 1414 [some (.ref b), some (.ref x), some (.ref o), some (.int (nI n))] []) : GC (sX b L xs) l mL_law 20 (8 * m + 8) (60 * m + 60) post σ 911 [some (.ref b), some (.ref x), some (.ref o), some (.int (nI n))] [] := by
  obtain ⟨hx0, hx1, hx2, hx3, hx4, hx5, hx6, hx7⟩ := hx
  refine gk_aload_n (i := 1) dL_law_911 rfl rfl ?_
  refine gk_aload_n (i := 0) dL_law_912 rfl rfl ?_
  refine gk_iload_n (i := 3) dL_law_913 rfl rfl ?_
  refine gk_iconst (v := 1) dL_law_914 (by decide) ?_
  refine gk_iadd dL_law_915 ?_
  refine gk_iald dL_law_916 (trivial) (hx1) ?_
  refine gk_aload_n (i := 0) dL_law_917 rfl rfl ?_
  refine gk_iload_n (i := 3) dL_law_918 rfl rfl ?_
  refine gk_iconst (v := 2) dL_law_919 (by decide) ?_
  refine gk_iadd dL_law_920 ?_
  refine gk_iald dL_law_921 (trivial) (hx2) ?_
  refine gk_i2l dL_law_922 ?_
  refine gk_bipush (v := 32) dL_law_923 (by decide) ?_
  refine gk_lshl dL_law_925 ?_
  refine gk_aload_n (i := 0) dL_law_926 rfl rfl ?_
  refine gk_iload_n (i := 3) dL_law_927 rfl rfl ?_
  refine gk_iconst (v := 3) dL_law_928 (by decide) ?_
  refine gk_iadd dL_law_929 ?_
  refine gk_iald dL_law_930 (trivial) (hx3) ?_
  refine gk_i2l dL_law_931 ?_
  refine gk_ldc2 (v := 4294967295) dL_law_932 klL_18 ?_
  refine gk_land dL_law_935 ?_
  refine gk_lor dL_law_936 ?_
  refine gk_aload_n (i := 0) dL_law_937 rfl rfl ?_
  refine gk_iload_n (i := 3) dL_law_938 rfl rfl ?_
  refine gk_iconst (v := 4) dL_law_939 (by decide) ?_
  refine gk_iadd dL_law_940 ?_
  refine gk_iald dL_law_941 (trivial) (hx4) ?_
  refine gk_aload_n (i := 0) dL_law_942 rfl rfl ?_
  refine gk_iload_n (i := 3) dL_law_943 rfl rfl ?_
  refine gk_iconst (v := 5) dL_law_944 (by decide) ?_
  refine gk_iadd dL_law_945 ?_
  refine gk_iald dL_law_946 (trivial) (hx5) ?_
  refine gk_i2l dL_law_947 ?_
  refine gk_bipush (v := 32) dL_law_948 (by decide) ?_
  refine gk_lshl dL_law_950 ?_
  refine gk_aload_n (i := 0) dL_law_951 rfl rfl ?_
  refine gk_iload_n (i := 3) dL_law_952 rfl rfl ?_
  refine gk_bipush (v := 6) dL_law_953 (by decide) ?_
  refine gk_iadd dL_law_955 ?_
  refine gk_iald dL_law_956 (trivial) (hx6) ?_
  refine gk_i2l dL_law_957 ?_
  refine gk_ldc2 (v := 4294967295) dL_law_958 klL_18 ?_
  refine gk_land dL_law_961 ?_
  refine gk_lor dL_law_962 ?_
  refine gk_aload_n (i := 0) dL_law_963 rfl rfl ?_
  refine gk_iload_n (i := 3) dL_law_964 rfl rfl ?_
  refine gk_bipush (v := 7) dL_law_965 (by decide) ?_
  refine gk_iadd dL_law_967 ?_
  refine gk_iald dL_law_968 (trivial) (hx7) ?_
  refine lwXi (My := mX10_check) hW [_, _, _, _, _] dL_law_969 lkL_79 mvX10_check rfl rfl (fun τ hR => c_X10_check hR _ _ _ _ _) (by decide) (by omega) (by omega) rfl (Nat.le_of_ble_eq_true rfl) (fun σ hW => ?_)
  refine gk_aload_n (i := 2) dL_law_972 rfl rfl ?_
  refine gk_aload_n (i := 0) dL_law_973 rfl rfl ?_
  refine gk_iload_n (i := 3) dL_law_974 rfl rfl ?_
  refine gk_iconst (v := 1) dL_law_975 (by decide) ?_
  refine gk_iadd dL_law_976 ?_
  refine gk_iald dL_law_977 (trivial) (hx1) ?_
  refine gk_aload_n (i := 0) dL_law_978 rfl rfl ?_
  refine gk_iload_n (i := 3) dL_law_979 rfl rfl ?_
  refine gk_iconst (v := 2) dL_law_980 (by decide) ?_
  refine gk_iadd dL_law_981 ?_
  refine gk_iald dL_law_982 (trivial) (hx2) ?_
  refine gk_i2l dL_law_983 ?_
  refine gk_bipush (v := 32) dL_law_984 (by decide) ?_
  refine gk_lshl dL_law_986 ?_
  refine gk_aload_n (i := 0) dL_law_987 rfl rfl ?_
  refine gk_iload_n (i := 3) dL_law_988 rfl rfl ?_
  refine gk_iconst (v := 3) dL_law_989 (by decide) ?_
  refine gk_iadd dL_law_990 ?_
  refine gk_iald dL_law_991 (trivial) (hx3) ?_
  refine gk_i2l dL_law_992 ?_
  refine gk_ldc2 (v := 4294967295) dL_law_993 klL_18 ?_
  refine gk_land dL_law_996 ?_
  refine gk_lor dL_law_997 ?_
  refine gk_aload_n (i := 0) dL_law_998 rfl rfl ?_
  refine gk_iload_n (i := 3) dL_law_999 rfl rfl ?_
  refine gk_iconst (v := 4) dL_law_1000 (by decide) ?_
  refine gk_iadd dL_law_1001 ?_
  refine gk_iald dL_law_1002 (trivial) (hx4) ?_
  refine gk_aload_n (i := 0) dL_law_1003 rfl rfl ?_
  refine gk_iload_n (i := 3) dL_law_1004 rfl rfl ?_
  refine gk_iconst (v := 5) dL_law_1005 (by decide) ?_
  refine gk_iadd dL_law_1006 ?_
  refine gk_iald dL_law_1007 (trivial) (hx5) ?_
  refine gk_i2l dL_law_1008 ?_
  refine gk_bipush (v := 32) dL_law_1009 (by decide) ?_
  refine gk_lshl dL_law_1011 ?_
  refine gk_aload_n (i := 0) dL_law_1012 rfl rfl ?_
  refine gk_iload_n (i := 3) dL_law_1013 rfl rfl ?_
  refine gk_bipush (v := 6) dL_law_1014 (by decide) ?_
  refine gk_iadd dL_law_1016 ?_
  refine gk_iald dL_law_1017 (trivial) (hx6) ?_
  refine gk_i2l dL_law_1018 ?_
  refine gk_ldc2 (v := 4294967295) dL_law_1019 klL_18 ?_
  refine gk_land dL_law_1022 ?_
  refine gk_lor dL_law_1023 ?_
  refine gk_aload_n (i := 0) dL_law_1024 rfl rfl ?_
  refine gk_iload_n (i := 3) dL_law_1025 rfl rfl ?_
  refine gk_bipush (v := 7) dL_law_1026 (by decide) ?_
  refine gk_iadd dL_law_1028 ?_
  refine gk_iald dL_law_1029 (trivial) (hx7) ?_
  refine lwMi (My := mX11_check) hW [_, _, _, _, _] dL_law_1030 lkL_83 mvX11_check rfl rfl (fun τ ad S hM hR => c_X11_check hM hR _ _ _ _ _) (by decide) (by omega) (by omega) rfl (Nat.le_of_ble_eq_true rfl) (fun σ hW => ?_)
  refine gk_icmp_eq (tgt := 1414) dL_law_1033 (by decide) (fun zc1033 => ?_) (fun zc1033 => ?_)
  · exact gk_bud (by omega) (by omega) (kk _ _ hW (hI))
  · exact absurd rfl zc1033
theorem law_c15 (hW : LW σ x o A A) (hI : Inv A) (hx : LX n L) (kk : ∀ σ' A', LW σ' x o A' A' → Inv A' → GC (sX b L xs) l mL_law 20 (8 * m) (60 * m) post σ' 1414 [some (.ref b), some (.ref x), some (.ref o), some (.int (nI n))] []) : GC (sX b L xs) l mL_law 20 (8 * m + 8) (60 * m + 60) post σ 1038 [some (.ref b), some (.ref x), some (.ref o), some (.int (nI n))] [] := by
  obtain ⟨hx0, hx1, hx2, hx3, hx4, hx5, hx6, hx7⟩ := hx
  refine gk_aload_n (i := 1) dL_law_1038 rfl rfl ?_
  refine gk_aload_n (i := 0) dL_law_1039 rfl rfl ?_
  refine gk_iload_n (i := 3) dL_law_1040 rfl rfl ?_
  refine gk_iconst (v := 1) dL_law_1041 (by decide) ?_
  refine gk_iadd dL_law_1042 ?_
  refine gk_iald dL_law_1043 (trivial) (hx1) ?_
  refine gk_aload_n (i := 0) dL_law_1044 rfl rfl ?_
  refine gk_iload_n (i := 3) dL_law_1045 rfl rfl ?_
  refine gk_iconst (v := 2) dL_law_1046 (by decide) ?_
  refine gk_iadd dL_law_1047 ?_
  refine gk_iald dL_law_1048 (trivial) (hx2) ?_
  refine gk_i2l dL_law_1049 ?_
  refine gk_bipush (v := 32) dL_law_1050 (by decide) ?_
  refine gk_lshl dL_law_1052 ?_
  refine gk_aload_n (i := 0) dL_law_1053 rfl rfl ?_
  refine gk_iload_n (i := 3) dL_law_1054 rfl rfl ?_
  refine gk_iconst (v := 3) dL_law_1055 (by decide) ?_
  refine gk_iadd dL_law_1056 ?_
  refine gk_iald dL_law_1057 (trivial) (hx3) ?_
  refine gk_i2l dL_law_1058 ?_
  refine gk_ldc2 (v := 4294967295) dL_law_1059 klL_18 ?_
  refine gk_land dL_law_1062 ?_
  refine gk_lor dL_law_1063 ?_
  refine lwXl (My := mX10_inverse) hW [_, _] dL_law_1064 lkL_84 mvX10_inverse rfl rfl (fun τ hR => c_X10_inverse hR _ _) (by decide) (by omega) (by omega) rfl (Nat.le_of_ble_eq_true rfl) (fun σ hW => ?_)
  refine gk_aload_n (i := 2) dL_law_1067 rfl rfl ?_
  refine gk_aload_n (i := 0) dL_law_1068 rfl rfl ?_
  refine gk_iload_n (i := 3) dL_law_1069 rfl rfl ?_
  refine gk_iconst (v := 1) dL_law_1070 (by decide) ?_
  refine gk_iadd dL_law_1071 ?_
  refine gk_iald dL_law_1072 (trivial) (hx1) ?_
  refine gk_aload_n (i := 0) dL_law_1073 rfl rfl ?_
  refine gk_iload_n (i := 3) dL_law_1074 rfl rfl ?_
  refine gk_iconst (v := 2) dL_law_1075 (by decide) ?_
  refine gk_iadd dL_law_1076 ?_
  refine gk_iald dL_law_1077 (trivial) (hx2) ?_
  refine gk_i2l dL_law_1078 ?_
  refine gk_bipush (v := 32) dL_law_1079 (by decide) ?_
  refine gk_lshl dL_law_1081 ?_
  refine gk_aload_n (i := 0) dL_law_1082 rfl rfl ?_
  refine gk_iload_n (i := 3) dL_law_1083 rfl rfl ?_
  refine gk_iconst (v := 3) dL_law_1084 (by decide) ?_
  refine gk_iadd dL_law_1085 ?_
  refine gk_iald dL_law_1086 (trivial) (hx3) ?_
  refine gk_i2l dL_law_1087 ?_
  refine gk_ldc2 (v := 4294967295) dL_law_1088 klL_18 ?_
  refine gk_land dL_law_1091 ?_
  refine gk_lor dL_law_1092 ?_
  refine lwMl (My := mX11_inverse) hW [_, _] dL_law_1093 lkL_87 mvX11_inverse rfl rfl (fun τ ad S hM hR => c_X11_inverse hM hR _ _) (by decide) (by omega) (by omega) rfl (Nat.le_of_ble_eq_true rfl) (fun σ hW => ?_)
  refine gk_lcmp dL_law_1096 ?_
  refine gk_if_eq (tgt := 1414) dL_law_1097 (by decide) (fun zc1097 => ?_) (fun zc1097 => ?_)
  · exact gk_bud (by omega) (by omega) (kk _ _ hW (hI))
  · exact absurd ((lg_cmp_eq _ _).mpr rfl) zc1097
theorem law_c16 (hW : LW σ x o A A) (hI : Inv A) (hx : LX n L) (kk : ∀ σ' A', LW σ' x o A' A' → Inv A' → GC (sX b L xs) l mL_law 20 (8 * m) (60 * m) post σ' 1414 [some (.ref b), some (.ref x), some (.ref o), some (.int (nI n))] []) : GC (sX b L xs) l mL_law 20 (8 * m + 8) (60 * m + 60) post σ 1102 [some (.ref b), some (.ref x), some (.ref o), some (.int (nI n))] [] := by
  obtain ⟨hx0, hx1, hx2, hx3, hx4, hx5, hx6, hx7⟩ := hx
  refine gk_aload_n (i := 1) dL_law_1102 rfl rfl ?_
  refine gk_aload_n (i := 0) dL_law_1103 rfl rfl ?_
  refine gk_iload_n (i := 3) dL_law_1104 rfl rfl ?_
  refine gk_iconst (v := 1) dL_law_1105 (by decide) ?_
  refine gk_iadd dL_law_1106 ?_
  refine gk_iald dL_law_1107 (trivial) (hx1) ?_
  refine gk_aload_n (i := 0) dL_law_1108 rfl rfl ?_
  refine gk_iload_n (i := 3) dL_law_1109 rfl rfl ?_
  refine gk_iconst (v := 2) dL_law_1110 (by decide) ?_
  refine gk_iadd dL_law_1111 ?_
  refine gk_iald dL_law_1112 (trivial) (hx2) ?_
  refine gk_i2l dL_law_1113 ?_
  refine gk_bipush (v := 32) dL_law_1114 (by decide) ?_
  refine gk_lshl dL_law_1116 ?_
  refine gk_aload_n (i := 0) dL_law_1117 rfl rfl ?_
  refine gk_iload_n (i := 3) dL_law_1118 rfl rfl ?_
  refine gk_iconst (v := 3) dL_law_1119 (by decide) ?_
  refine gk_iadd dL_law_1120 ?_
  refine gk_iald dL_law_1121 (trivial) (hx3) ?_
  refine gk_i2l dL_law_1122 ?_
  refine gk_ldc2 (v := 4294967295) dL_law_1123 klL_18 ?_
  refine gk_land dL_law_1126 ?_
  refine gk_lor dL_law_1127 ?_
  refine lwXl (My := mX10_tell) hW [_, _] dL_law_1128 lkL_88 mvX10_tell rfl rfl (fun τ hR => c_X10_tell hR _ _) (by decide) (by omega) (by omega) rfl (Nat.le_of_ble_eq_true rfl) (fun σ hW => ?_)
  refine gk_aload_n (i := 2) dL_law_1131 rfl rfl ?_
  refine gk_aload_n (i := 0) dL_law_1132 rfl rfl ?_
  refine gk_iload_n (i := 3) dL_law_1133 rfl rfl ?_
  refine gk_iconst (v := 1) dL_law_1134 (by decide) ?_
  refine gk_iadd dL_law_1135 ?_
  refine gk_iald dL_law_1136 (trivial) (hx1) ?_
  refine gk_aload_n (i := 0) dL_law_1137 rfl rfl ?_
  refine gk_iload_n (i := 3) dL_law_1138 rfl rfl ?_
  refine gk_iconst (v := 2) dL_law_1139 (by decide) ?_
  refine gk_iadd dL_law_1140 ?_
  refine gk_iald dL_law_1141 (trivial) (hx2) ?_
  refine gk_i2l dL_law_1142 ?_
  refine gk_bipush (v := 32) dL_law_1143 (by decide) ?_
  refine gk_lshl dL_law_1145 ?_
  refine gk_aload_n (i := 0) dL_law_1146 rfl rfl ?_
  refine gk_iload_n (i := 3) dL_law_1147 rfl rfl ?_
  refine gk_iconst (v := 3) dL_law_1148 (by decide) ?_
  refine gk_iadd dL_law_1149 ?_
  refine gk_iald dL_law_1150 (trivial) (hx3) ?_
  refine gk_i2l dL_law_1151 ?_
  refine gk_ldc2 (v := 4294967295) dL_law_1152 klL_18 ?_
  refine gk_land dL_law_1155 ?_
  refine gk_lor dL_law_1156 ?_
  refine lwMl (My := mX11_tell) hW [_, _] dL_law_1157 lkL_91 mvX11_tell rfl rfl (fun τ ad S hM hR => c_X11_tell hM hR _ _) (by decide) (by omega) (by omega) rfl (Nat.le_of_ble_eq_true rfl) (fun σ hW => ?_)
  refine gk_lcmp dL_law_1160 ?_
  refine gk_if_eq (tgt := 1414) dL_law_1161 (by decide) (fun zc1161 => ?_) (fun zc1161 => ?_)
  · exact gk_bud (by omega) (by omega) (kk _ _ hW (hI.stell _ _))
  · exact absurd ((lg_cmp_eq _ _).mpr rfl) zc1161
theorem law_c17 (hW : LW σ x o A A) (hI : Inv A) (hx : LX n L) (kk : ∀ σ' A', LW σ' x o A' A' → Inv A' → GC (sX b L xs) l mL_law 20 (8 * m) (60 * m) post σ' 1414 [some (.ref b), some (.ref x), some (.ref o), some (.int (nI n))] []) : GC (sX b L xs) l mL_law 20 (8 * m + 8) (60 * m + 60) post σ 1166 [some (.ref b), some (.ref x), some (.ref o), some (.int (nI n))] [] := by
  obtain ⟨hx0, hx1, hx2, hx3, hx4, hx5, hx6, hx7⟩ := hx
  refine gk_aload_n (i := 1) dL_law_1166 rfl rfl ?_
  refine gk_aload_n (i := 0) dL_law_1167 rfl rfl ?_
  refine gk_iload_n (i := 3) dL_law_1168 rfl rfl ?_
  refine gk_iconst (v := 1) dL_law_1169 (by decide) ?_
  refine gk_iadd dL_law_1170 ?_
  refine gk_iald dL_law_1171 (trivial) (hx1) ?_
  refine gk_aload_n (i := 0) dL_law_1172 rfl rfl ?_
  refine gk_iload_n (i := 3) dL_law_1173 rfl rfl ?_
  refine gk_iconst (v := 2) dL_law_1174 (by decide) ?_
  refine gk_iadd dL_law_1175 ?_
  refine gk_iald dL_law_1176 (trivial) (hx2) ?_
  refine gk_aload_n (i := 0) dL_law_1177 rfl rfl ?_
  refine gk_iload_n (i := 3) dL_law_1178 rfl rfl ?_
  refine gk_iconst (v := 3) dL_law_1179 (by decide) ?_
  refine gk_iadd dL_law_1180 ?_
  refine gk_iald dL_law_1181 (trivial) (hx3) ?_
  refine gk_i2l dL_law_1182 ?_
  refine gk_bipush (v := 32) dL_law_1183 (by decide) ?_
  refine gk_lshl dL_law_1185 ?_
  refine gk_aload_n (i := 0) dL_law_1186 rfl rfl ?_
  refine gk_iload_n (i := 3) dL_law_1187 rfl rfl ?_
  refine gk_iconst (v := 4) dL_law_1188 (by decide) ?_
  refine gk_iadd dL_law_1189 ?_
  refine gk_iald dL_law_1190 (trivial) (hx4) ?_
  refine gk_i2l dL_law_1191 ?_
  refine gk_ldc2 (v := 4294967295) dL_law_1192 klL_18 ?_
  refine gk_land dL_law_1195 ?_
  refine gk_lor dL_law_1196 ?_
  refine gk_aload_n (i := 0) dL_law_1197 rfl rfl ?_
  refine gk_iload_n (i := 3) dL_law_1198 rfl rfl ?_
  refine gk_iconst (v := 5) dL_law_1199 (by decide) ?_
  refine gk_iadd dL_law_1200 ?_
  refine gk_iald dL_law_1201 (trivial) (hx5) ?_
  refine lwXi (My := mX10_least) hW [_, _, _, _] dL_law_1202 lkL_92 mvX10_least rfl rfl (fun τ hR => c_X10_least hR hI.pr _ _ _ _) (by decide) (by omega) (by omega) rfl (Nat.le_of_ble_eq_true rfl) (fun σ hW => ?_)
  refine gk_aload_n (i := 2) dL_law_1205 rfl rfl ?_
  refine gk_aload_n (i := 0) dL_law_1206 rfl rfl ?_
  refine gk_iload_n (i := 3) dL_law_1207 rfl rfl ?_
  refine gk_iconst (v := 1) dL_law_1208 (by decide) ?_
  refine gk_iadd dL_law_1209 ?_
  refine gk_iald dL_law_1210 (trivial) (hx1) ?_
  refine gk_aload_n (i := 0) dL_law_1211 rfl rfl ?_
  refine gk_iload_n (i := 3) dL_law_1212 rfl rfl ?_
  refine gk_iconst (v := 2) dL_law_1213 (by decide) ?_
  refine gk_iadd dL_law_1214 ?_
  refine gk_iald dL_law_1215 (trivial) (hx2) ?_
  refine gk_aload_n (i := 0) dL_law_1216 rfl rfl ?_
  refine gk_iload_n (i := 3) dL_law_1217 rfl rfl ?_
  refine gk_iconst (v := 3) dL_law_1218 (by decide) ?_
  refine gk_iadd dL_law_1219 ?_
  refine gk_iald dL_law_1220 (trivial) (hx3) ?_
  refine gk_i2l dL_law_1221 ?_
  refine gk_bipush (v := 32) dL_law_1222 (by decide) ?_
  refine gk_lshl dL_law_1224 ?_
  refine gk_aload_n (i := 0) dL_law_1225 rfl rfl ?_
  refine gk_iload_n (i := 3) dL_law_1226 rfl rfl ?_
  refine gk_iconst (v := 4) dL_law_1227 (by decide) ?_
  refine gk_iadd dL_law_1228 ?_
  refine gk_iald dL_law_1229 (trivial) (hx4) ?_
  refine gk_i2l dL_law_1230 ?_
  refine gk_ldc2 (v := 4294967295) dL_law_1231 klL_18 ?_
  refine gk_land dL_law_1234 ?_
  refine gk_lor dL_law_1235 ?_
  refine gk_aload_n (i := 0) dL_law_1236 rfl rfl ?_
  refine gk_iload_n (i := 3) dL_law_1237 rfl rfl ?_
  refine gk_iconst (v := 5) dL_law_1238 (by decide) ?_
  refine gk_iadd dL_law_1239 ?_
  refine gk_iald dL_law_1240 (trivial) (hx5) ?_
  refine lwMi (My := mX11_least) hW [_, _, _, _] dL_law_1241 lkL_96 mvX11_least rfl rfl (fun τ ad S hM hR => c_X11_least hM hR hI.pr _ _ _ _) (by decide) (by omega) (by omega) rfl (Nat.le_of_ble_eq_true rfl) (fun σ hW => ?_)
  refine gk_icmp_eq (tgt := 1414) dL_law_1244 (by decide) (fun zc1244 => ?_) (fun zc1244 => ?_)
  · exact gk_bud (by omega) (by omega) (kk _ _ hW (hI.least _ _ _ _))
  · exact absurd rfl zc1244
theorem law_c18 (hW : LW σ x o A A) (hI : Inv A) (hx : LX n L) (kk : ∀ σ' A', LW σ' x o A' A' → Inv A' → GC (sX b L xs) l mL_law 20 (8 * m) (60 * m) post σ' 1414 [some (.ref b), some (.ref x), some (.ref o), some (.int (nI n))] []) : GC (sX b L xs) l mL_law 20 (8 * m + 8) (60 * m + 60) post σ 1249 [some (.ref b), some (.ref x), some (.ref o), some (.int (nI n))] [] := by
  obtain ⟨hx0, hx1, hx2, hx3, hx4, hx5, hx6, hx7⟩ := hx
  refine gk_aload_n (i := 1) dL_law_1249 rfl rfl ?_
  refine gk_aload_n (i := 0) dL_law_1250 rfl rfl ?_
  refine gk_iload_n (i := 3) dL_law_1251 rfl rfl ?_
  refine gk_iconst (v := 1) dL_law_1252 (by decide) ?_
  refine gk_iadd dL_law_1253 ?_
  refine gk_iald dL_law_1254 (trivial) (hx1) ?_
  refine lwXi (My := mX10_count) hW [_] dL_law_1255 lkL_97 mvX10_count rfl rfl (fun τ hR => c_X10_count hR _) (by decide) (by omega) (by omega) rfl (Nat.le_of_ble_eq_true rfl) (fun σ hW => ?_)
  refine gk_aload_n (i := 2) dL_law_1258 rfl rfl ?_
  refine gk_aload_n (i := 0) dL_law_1259 rfl rfl ?_
  refine gk_iload_n (i := 3) dL_law_1260 rfl rfl ?_
  refine gk_iconst (v := 1) dL_law_1261 (by decide) ?_
  refine gk_iadd dL_law_1262 ?_
  refine gk_iald dL_law_1263 (trivial) (hx1) ?_
  refine lwMi (My := mX11_count) hW [_] dL_law_1264 lkL_100 mvX11_count rfl rfl (fun τ ad S hM hR => c_X11_count hM hR _) (by decide) (by omega) (by omega) rfl (Nat.le_of_ble_eq_true rfl) (fun σ hW => ?_)
  refine gk_icmp_eq (tgt := 1414) dL_law_1267 (by decide) (fun zc1267 => ?_) (fun zc1267 => ?_)
  · exact gk_bud (by omega) (by omega) (kk _ _ hW (hI))
  · exact absurd rfl zc1267
theorem law_c19 (hW : LW σ x o A A) (hI : Inv A) (hx : LX n L) (kk : ∀ σ' A', LW σ' x o A' A' → Inv A' → GC (sX b L xs) l mL_law 20 (8 * m) (60 * m) post σ' 1414 [some (.ref b), some (.ref x), some (.ref o), some (.int (nI n))] []) : GC (sX b L xs) l mL_law 20 (8 * m + 8) (60 * m + 60) post σ 1272 [some (.ref b), some (.ref x), some (.ref o), some (.int (nI n))] [] := by
  obtain ⟨hx0, hx1, hx2, hx3, hx4, hx5, hx6, hx7⟩ := hx
  refine gk_aload_n (i := 1) dL_law_1272 rfl rfl ?_
  refine lwXi (My := mX10_undo) hW [] dL_law_1273 lkL_101 mvX10_undo rfl rfl (fun τ hR => c_X10_undo hR hI.lastC) (by decide) (by omega) (by omega) rfl (Nat.le_of_ble_eq_true rfl) (fun σ hW => ?_)
  refine gk_aload_n (i := 2) dL_law_1276 rfl rfl ?_
  refine lwMi (My := mX11_undo) hW [] dL_law_1277 lkL_104 mvX11_undo rfl rfl (fun τ ad S hM hR => c_X11_undo hM hR (fun c hc => (hI.lastC c hc).1)) (by decide) (by omega) (by omega) rfl (Nat.le_of_ble_eq_true rfl) (fun σ hW => ?_)
  refine gk_icmp_eq (tgt := 1414) dL_law_1280 (by decide) (fun zc1280 => ?_) (fun zc1280 => ?_)
  · exact gk_bud (by omega) (by omega) (kk _ _ hW (hI.undo))
  · exact absurd rfl zc1280
theorem law_c20 (hW : LW σ x o A A) (hI : Inv A) (hx : LX n L) (kk : ∀ σ' A', LW σ' x o A' A' → Inv A' → GC (sX b L xs) l mL_law 20 (8 * m) (60 * m) post σ' 1414 [some (.ref b), some (.ref x), some (.ref o), some (.int (nI n))] []) : GC (sX b L xs) l mL_law 20 (8 * m + 8) (60 * m + 60) post σ 1285 [some (.ref b), some (.ref x), some (.ref o), some (.int (nI n))] [] := by
  obtain ⟨hx0, hx1, hx2, hx3, hx4, hx5, hx6, hx7⟩ := hx
  refine gk_aload_n (i := 1) dL_law_1285 rfl rfl ?_
  refine gk_aload_n (i := 0) dL_law_1286 rfl rfl ?_
  refine gk_iload_n (i := 3) dL_law_1287 rfl rfl ?_
  refine gk_iconst (v := 1) dL_law_1288 (by decide) ?_
  refine gk_iadd dL_law_1289 ?_
  refine gk_iald dL_law_1290 (trivial) (hx1) ?_
  refine gk_aload_n (i := 0) dL_law_1291 rfl rfl ?_
  refine gk_iload_n (i := 3) dL_law_1292 rfl rfl ?_
  refine gk_iconst (v := 2) dL_law_1293 (by decide) ?_
  refine gk_iadd dL_law_1294 ?_
  refine gk_iald dL_law_1295 (trivial) (hx2) ?_
  refine gk_aload_n (i := 0) dL_law_1296 rfl rfl ?_
  refine gk_iload_n (i := 3) dL_law_1297 rfl rfl ?_
  refine gk_iconst (v := 3) dL_law_1298 (by decide) ?_
  refine gk_iadd dL_law_1299 ?_
  refine gk_iald dL_law_1300 (trivial) (hx3) ?_
  refine gk_aload_n (i := 0) dL_law_1301 rfl rfl ?_
  refine gk_iload_n (i := 3) dL_law_1302 rfl rfl ?_
  refine gk_iconst (v := 4) dL_law_1303 (by decide) ?_
  refine gk_iadd dL_law_1304 ?_
  refine gk_iald dL_law_1305 (trivial) (hx4) ?_
  refine lwXi (My := mX10_hook) hW [_, _, _, _] dL_law_1306 lkL_105 mvX10_hook rfl rfl (fun τ hR => c_X10_hook hR hI.wf _ _ _ _) (by decide) (by omega) (by omega) rfl (Nat.le_of_ble_eq_true rfl) (fun σ hW => ?_)
  refine gk_aload_n (i := 2) dL_law_1309 rfl rfl ?_
  refine gk_aload_n (i := 0) dL_law_1310 rfl rfl ?_
  refine gk_iload_n (i := 3) dL_law_1311 rfl rfl ?_
  refine gk_iconst (v := 1) dL_law_1312 (by decide) ?_
  refine gk_iadd dL_law_1313 ?_
  refine gk_iald dL_law_1314 (trivial) (hx1) ?_
  refine gk_aload_n (i := 0) dL_law_1315 rfl rfl ?_
  refine gk_iload_n (i := 3) dL_law_1316 rfl rfl ?_
  refine gk_iconst (v := 2) dL_law_1317 (by decide) ?_
  refine gk_iadd dL_law_1318 ?_
  refine gk_iald dL_law_1319 (trivial) (hx2) ?_
  refine gk_aload_n (i := 0) dL_law_1320 rfl rfl ?_
  refine gk_iload_n (i := 3) dL_law_1321 rfl rfl ?_
  refine gk_iconst (v := 3) dL_law_1322 (by decide) ?_
  refine gk_iadd dL_law_1323 ?_
  refine gk_iald dL_law_1324 (trivial) (hx3) ?_
  refine gk_aload_n (i := 0) dL_law_1325 rfl rfl ?_
  refine gk_iload_n (i := 3) dL_law_1326 rfl rfl ?_
  refine gk_iconst (v := 4) dL_law_1327 (by decide) ?_
  refine gk_iadd dL_law_1328 ?_
  refine gk_iald dL_law_1329 (trivial) (hx4) ?_
  refine lwMi (My := mX11_hook) hW [_, _, _, _] dL_law_1330 lkL_109 mvX11_hook rfl rfl (fun τ ad S hM hR => c_X11_hook hM hR hI.wf _ _ _ _) (by decide) (by omega) (by omega) rfl (Nat.le_of_ble_eq_true rfl) (fun σ hW => ?_)
  refine gk_icmp_eq (tgt := 1414) dL_law_1333 (by decide) (fun zc1333 => ?_) (fun zc1333 => ?_)
  · exact gk_bud (by omega) (by omega) (kk _ _ hW (hI.shook _ _ _ _))
  · exact absurd rfl zc1333
theorem law_c21 (hW : LW σ x o A A) (hI : Inv A) (hx : LX n L) (kk : ∀ σ' A', LW σ' x o A' A' → Inv A' → GC (sX b L xs) l mL_law 20 (8 * m) (60 * m) post σ' 1414 [some (.ref b), some (.ref x), some (.ref o), some (.int (nI n))] []) : GC (sX b L xs) l mL_law 20 (8 * m + 8) (60 * m + 60) post σ 1338 [some (.ref b), some (.ref x), some (.ref o), some (.int (nI n))] [] := by
  obtain ⟨hx0, hx1, hx2, hx3, hx4, hx5, hx6, hx7⟩ := hx
  refine gk_aload_n (i := 1) dL_law_1338 rfl rfl ?_
  refine gk_aload_n (i := 0) dL_law_1339 rfl rfl ?_
  refine gk_iload_n (i := 3) dL_law_1340 rfl rfl ?_
  refine gk_iconst (v := 1) dL_law_1341 (by decide) ?_
  refine gk_iadd dL_law_1342 ?_
  refine gk_iald dL_law_1343 (trivial) (hx1) ?_
  refine lwXi (My := mX10_held) hW [_] dL_law_1344 lkL_110 mvX10_held rfl rfl (fun τ hR => c_X10_held hR _) (by decide) (by omega) (by omega) rfl (Nat.le_of_ble_eq_true rfl) (fun σ hW => ?_)
  refine gk_aload_n (i := 2) dL_law_1347 rfl rfl ?_
  refine gk_aload_n (i := 0) dL_law_1348 rfl rfl ?_
  refine gk_iload_n (i := 3) dL_law_1349 rfl rfl ?_
  refine gk_iconst (v := 1) dL_law_1350 (by decide) ?_
  refine gk_iadd dL_law_1351 ?_
  refine gk_iald dL_law_1352 (trivial) (hx1) ?_
  refine lwMi (My := mX11_held) hW [_] dL_law_1353 lkL_113 mvX11_held rfl rfl (fun τ ad S hM hR => c_X11_held hM hR _) (by decide) (by omega) (by omega) rfl (Nat.le_of_ble_eq_true rfl) (fun σ hW => ?_)
  refine gk_icmp_eq (tgt := 1414) dL_law_1356 (by decide) (fun zc1356 => ?_) (fun zc1356 => ?_)
  · exact gk_bud (by omega) (by omega) (kk _ _ hW (hI))
  · exact absurd rfl zc1356
theorem law_c22 (hW : LW σ x o A A) (hI : Inv A) (hx : LX n L) (kk : ∀ σ' A', LW σ' x o A' A' → Inv A' → GC (sX b L xs) l mL_law 20 (8 * m) (60 * m) post σ' 1414 [some (.ref b), some (.ref x), some (.ref o), some (.int (nI n))] []) : GC (sX b L xs) l mL_law 20 (8 * m + 8) (60 * m + 60) post σ 1361 [some (.ref b), some (.ref x), some (.ref o), some (.int (nI n))] [] := by
  obtain ⟨hx0, hx1, hx2, hx3, hx4, hx5, hx6, hx7⟩ := hx
  refine gk_aload_n (i := 1) dL_law_1361 rfl rfl ?_
  refine gk_aload_n (i := 0) dL_law_1362 rfl rfl ?_
  refine gk_iload_n (i := 3) dL_law_1363 rfl rfl ?_
  refine gk_iconst (v := 1) dL_law_1364 (by decide) ?_
  refine gk_iadd dL_law_1365 ?_
  refine gk_iald dL_law_1366 (trivial) (hx1) ?_
  refine gk_aload_n (i := 0) dL_law_1367 rfl rfl ?_
  refine gk_iload_n (i := 3) dL_law_1368 rfl rfl ?_
  refine gk_iconst (v := 2) dL_law_1369 (by decide) ?_
  refine gk_iadd dL_law_1370 ?_
  refine gk_iald dL_law_1371 (trivial) (hx2) ?_
  refine gk_aload_n (i := 0) dL_law_1372 rfl rfl ?_
  refine gk_iload_n (i := 3) dL_law_1373 rfl rfl ?_
  refine gk_iconst (v := 3) dL_law_1374 (by decide) ?_
  refine gk_iadd dL_law_1375 ?_
  refine gk_iald dL_law_1376 (trivial) (hx3) ?_
  refine gk_aload_n (i := 0) dL_law_1377 rfl rfl ?_
  refine gk_iload_n (i := 3) dL_law_1378 rfl rfl ?_
  refine gk_iconst (v := 4) dL_law_1379 (by decide) ?_
  refine gk_iadd dL_law_1380 ?_
  refine gk_iald dL_law_1381 (trivial) (hx4) ?_
  refine lwXi (My := mX10_use) hW [_, _, _, _] dL_law_1382 lkL_114 mvX10_use rfl rfl (fun τ hR => c_X10_use hR _ _ _ _) (by decide) (by omega) (by omega) rfl (Nat.le_of_ble_eq_true rfl) (fun σ hW => ?_)
  refine gk_aload_n (i := 2) dL_law_1385 rfl rfl ?_
  refine gk_aload_n (i := 0) dL_law_1386 rfl rfl ?_
  refine gk_iload_n (i := 3) dL_law_1387 rfl rfl ?_
  refine gk_iconst (v := 1) dL_law_1388 (by decide) ?_
  refine gk_iadd dL_law_1389 ?_
  refine gk_iald dL_law_1390 (trivial) (hx1) ?_
  refine gk_aload_n (i := 0) dL_law_1391 rfl rfl ?_
  refine gk_iload_n (i := 3) dL_law_1392 rfl rfl ?_
  refine gk_iconst (v := 2) dL_law_1393 (by decide) ?_
  refine gk_iadd dL_law_1394 ?_
  refine gk_iald dL_law_1395 (trivial) (hx2) ?_
  refine gk_aload_n (i := 0) dL_law_1396 rfl rfl ?_
  refine gk_iload_n (i := 3) dL_law_1397 rfl rfl ?_
  refine gk_iconst (v := 3) dL_law_1398 (by decide) ?_
  refine gk_iadd dL_law_1399 ?_
  refine gk_iald dL_law_1400 (trivial) (hx3) ?_
  refine gk_aload_n (i := 0) dL_law_1401 rfl rfl ?_
  refine gk_iload_n (i := 3) dL_law_1402 rfl rfl ?_
  refine gk_iconst (v := 4) dL_law_1403 (by decide) ?_
  refine gk_iadd dL_law_1404 ?_
  refine gk_iald dL_law_1405 (trivial) (hx4) ?_
  refine lwMi (My := mX11_use) hW [_, _, _, _] dL_law_1406 lkL_117 mvX11_use rfl rfl (fun τ ad S hM hR => c_X11_use hM hR (fun h hh => (hI.1.2.2 h hh).1) _ _ _ _) (by decide) (by omega) (by omega) rfl (Nat.le_of_ble_eq_true rfl) (fun σ hW => ?_)
  refine gk_icmp_eq (tgt := 1414) dL_law_1409 (by decide) (fun zc1409 => ?_) (fun zc1409 => ?_)
  · exact gk_bud (by omega) (by omega) (kk _ _ hW (hI.use _ _ _ _))
  · exact absurd rfl zc1409
end LawC
