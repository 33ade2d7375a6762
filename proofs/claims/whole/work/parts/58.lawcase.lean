/-! THE LAW'S CASES -/
theorem g_topL2 {p : Program} {l : Launch} {e : Env} {R : Room} {s : State} {m : MethodId} {args : Array Value} {below : List Frame} {meth : Method} {c : Code} {γ : gG} {A : Nat → Prop} {nL k n : Nat} {Q : State → Prop} {pc : Nat} {ls : List (Option Value)} {rest : List Value} {σ : gS} {x y z : Int64} (h : x = y) (kk : G p l e R s m args below meth c γ A nL k n Q pc ls (.long z :: .long y :: rest) σ) : G p l e R s m args below meth c γ A nL k n Q pc ls (.long z :: .long x :: rest) σ := by rw [h]; exact kk
theorem xgt {Lx t : Nat} (hL : Lx ≤ 2048) (hT : t ≤ 600) (h : Lx < 4 * t + 4) : nI Lx - nI 4 < nI (4 * t) := by
  by_cases h4 : Lx < 4
  · have h1 : nI Lx - nI 4 < 0 := pk_sneg (by decide) h4
    by_cases ht : 4 * t < 2 ^ 31
    · exact Int32.lt_of_lt_of_le h1 (Int32.not_lt.mp (nI_pos ht))
    · exact absurd hT (by omega)
  · rw [pk_sub (by omega)]
    exact nI_lt (by omega) (by omega)
section LAWC
variable {p : Program} {l : Launch} {e : Env} {s : State} {m : MethodId} {args : Array Value} {below : List Frame} {meth : Method} {c : Code} {γ : gG} {A : Nat → Prop} {k n : Nat} {Q : State → Prop}
variable {σ : gS} {b Lx t : Nat} {xs : Nat → Int32}
set_option maxRecDepth 20000 in
theorem law_c0 (X : CX p s m args c cL_law RL 9 wsL_law γ A) (Y : CL l s A b Lx xs) (hj : inj γ) (ht : 4 * t + 4 ≤ Lx) (hK : t ≤ 999) (hI : INV σ t) (hk : k + 1 ≤ 601024) (hn : n + 6 ≤ 7293034)
    (kk : ∀ (ls : List (Option Value)) (σ2 : gS), INV σ2 (t + 1) → gl_le (LSl γ b t) ls → G p l e room_1 s m args below meth c γ A 9 (k + 1) (n + 6) Q 1534 ls [] σ2) : G p l e room_1 s m args below meth c γ A 9 k n Q 152 (LSl γ b t) [] σ := by
  unfold LSl
  obtain ⟨kc, σ1, hk3, hH, pM, hM, hpost⟩ := s_bring l γ hI hK (xs (4 * t + 1)) (xs (4 * t + 2))
  refine g_aload_n X dL_law_152 rfl rfl ?_
  refine g_aload_n X dL_law_153 rfl rfl ?_
  refine g_iload X dL_law_154 rfl ?_
  refine g_iconstN X 1 dL_law_156 ?_
  refine g_iaddN X dL_law_157 ?_
  refine g_xld X Y (by omega) dL_law_158 ?_
  refine g_aload_n X dL_law_159 rfl rfl ?_
  refine g_iload X dL_law_160 rfl ?_
  refine g_iconstN X 2 dL_law_162 ?_
  refine g_iaddN X dL_law_163 ?_
  refine g_xld X Y (by omega) dL_law_164 ?_
  refine g_aload_n X dL_law_165 rfl rfl ?_
  refine g_callH (na := 4) X Y hj _ hH gL_law_L_bring rfl ⟨rfl, rfl⟩ (by decide +kernel) rfl ⟨by decide, by decide⟩ rfl (Nat.le_of_ble_eq_true rfl) dL_law_166 ⟨by show _ ≤ 601024; omega, by show _ ≤ 7293034; omega⟩ (fun v9 σ9 h9 => ?_)
  obtain ⟨rfl, rfl⟩ := h9
  refine g_istore_s5 X dL_law_169 (by decide) rfl ?_
  refine g_aload_n X dL_law_171 rfl rfl ?_
  refine g_aload_n X dL_law_172 rfl rfl ?_
  refine g_iload X dL_law_173 rfl ?_
  refine g_iconstN X 1 dL_law_175 ?_
  refine g_iaddN X dL_law_176 ?_
  refine g_xld X Y (by omega) dL_law_177 ?_
  refine g_aload_n X dL_law_178 rfl rfl ?_
  refine g_iload X dL_law_179 rfl ?_
  refine g_iconstN X 2 dL_law_181 ?_
  refine g_iaddN X dL_law_182 ?_
  refine g_xld X Y (by omega) dL_law_183 ?_
  refine g_callV (na := 2) X hj [.int (xs (4 * t + 1)), .int (xs (4 * t + 2))] hM gW_23 rfl gL_law_X5_bring rfl ⟨rfl, rfl⟩ (by decide +kernel) rfl ⟨by decide, by decide⟩ rfl (Nat.le_of_ble_eq_true rfl) dL_law_184 ⟨by show _ ≤ 601024; omega, by show _ ≤ 7293034; omega⟩ (fun v9 σ9 h9 => ?_)
  obtain ⟨b9, rfl, h6, h30, hI9⟩ := hpost v9 σ9 h9
  refine g_istore_s6 X dL_law_187 (by decide) rfl ?_
  refine g_aload_n X dL_law_189 rfl rfl ?_
  refine g_callVi (na := 0) X hj (k_X5_thrown l γ _) gW_23 rfl gL_law_X5_thrown rfl ⟨rfl, rfl⟩ (by decide +kernel) rfl ⟨by decide, by decide⟩ rfl (Nat.le_of_ble_eq_true rfl) dL_law_190 ⟨by show _ ≤ 601024; omega, by show _ ≤ 7293034; omega⟩ ?_
  refine g_top (y := nI kc) h6 ?_
  refine g_iload X dL_law_193 rfl ?_
  refine g_icmp_eq (tgt := 200) X dL_law_195 (by decide) (fun c1 => ?_) (fun c1 => absurd rfl c1)
  refine g_iload X dL_law_200 rfl ?_
  refine g_if_ne (tgt := 217) X dL_law_202 (by decide) (fun c2 => ?_) (fun c2 => ?_)
  · refine g_goto (tgt := 1534) X dL_law_217 (by decide) ?_
    exact kk _ _ hI9 (by simp [gl_le, LSl])
  · have hk0 := nI_z hk3 c2
    refine g_aload_n X dL_law_205 rfl rfl ?_
    refine g_iconstN X 0 dL_law_206 ?_
    refine g_ald_30 X rfl (by omega) dL_law_207 ?_
    refine g_iload X dL_law_208 rfl ?_
    refine g_i2l X dL_law_210 rfl ?_
    refine g_topL2 (h30 hk0) ?_
    refine g_lcmp X dL_law_211 ?_
    refine g_if_eq (tgt := 217) X dL_law_212 (by decide) (fun c3 => ?_) (fun c3 => absurd (lg_self _) c3)
    refine g_goto (tgt := 1534) X dL_law_217 (by decide) ?_
    exact kk _ _ hI9 (by simp [gl_le, LSl])
set_option maxRecDepth 20000 in
theorem law_c1 (X : CX p s m args c cL_law RL 9 wsL_law γ A) (Y : CL l s A b Lx xs) (hj : inj γ) (ht : 4 * t + 4 ≤ Lx) (hK : t ≤ 999) (hI : INV σ t) (hk : k + 1 ≤ 601024) (hn : n + 6 ≤ 7293034)
    (kk : ∀ (ls : List (Option Value)) (σ2 : gS), INV σ2 (t + 1) → gl_le (LSl γ b t) ls → G p l e room_1 s m args below meth c γ A 9 (k + 1) (n + 6) Q 1534 ls [] σ2) : G p l e room_1 s m args below meth c γ A 9 k n Q 220 (LSl γ b t) [] σ := by
  unfold LSl
  obtain ⟨kc, σ1, hk3, hH, pM, hM, hpost⟩ := s_takeOut l γ hI hK (xs (4 * t + 1)) (xs (4 * t + 2))
  refine g_aload_n X dL_law_220 rfl rfl ?_
  refine g_aload_n X dL_law_221 rfl rfl ?_
  refine g_iload X dL_law_222 rfl ?_
  refine g_iconstN X 1 dL_law_224 ?_
  refine g_iaddN X dL_law_225 ?_
  refine g_xld X Y (by omega) dL_law_226 ?_
  refine g_aload_n X dL_law_227 rfl rfl ?_
  refine g_iload X dL_law_228 rfl ?_
  refine g_iconstN X 2 dL_law_230 ?_
  refine g_iaddN X dL_law_231 ?_
  refine g_xld X Y (by omega) dL_law_232 ?_
  refine g_aload_n X dL_law_233 rfl rfl ?_
  refine g_callH (na := 4) X Y hj _ hH gL_law_L_takeOut rfl ⟨rfl, rfl⟩ (by decide +kernel) rfl ⟨by decide, by decide⟩ rfl (Nat.le_of_ble_eq_true rfl) dL_law_234 ⟨by show _ ≤ 601024; omega, by show _ ≤ 7293034; omega⟩ (fun v9 σ9 h9 => ?_)
  obtain ⟨rfl, rfl⟩ := h9
  refine g_istore_s5 X dL_law_237 (by decide) rfl ?_
  refine g_aload_n X dL_law_239 rfl rfl ?_
  refine g_aload_n X dL_law_240 rfl rfl ?_
  refine g_iload X dL_law_241 rfl ?_
  refine g_iconstN X 1 dL_law_243 ?_
  refine g_iaddN X dL_law_244 ?_
  refine g_xld X Y (by omega) dL_law_245 ?_
  refine g_aload_n X dL_law_246 rfl rfl ?_
  refine g_iload X dL_law_247 rfl ?_
  refine g_iconstN X 2 dL_law_249 ?_
  refine g_iaddN X dL_law_250 ?_
  refine g_xld X Y (by omega) dL_law_251 ?_
  refine g_callV (na := 2) X hj [.int (xs (4 * t + 1)), .int (xs (4 * t + 2))] hM gW_23 rfl gL_law_X5_takeOut rfl ⟨rfl, rfl⟩ (by decide +kernel) rfl ⟨by decide, by decide⟩ rfl (Nat.le_of_ble_eq_true rfl) dL_law_252 ⟨by show _ ≤ 601024; omega, by show _ ≤ 7293034; omega⟩ (fun v9 σ9 h9 => ?_)
  obtain ⟨b9, rfl, h6, h30, hI9⟩ := hpost v9 σ9 h9
  refine g_istore_s6 X dL_law_255 (by decide) rfl ?_
  refine g_aload_n X dL_law_257 rfl rfl ?_
  refine g_callVi (na := 0) X hj (k_X5_thrown l γ _) gW_23 rfl gL_law_X5_thrown rfl ⟨rfl, rfl⟩ (by decide +kernel) rfl ⟨by decide, by decide⟩ rfl (Nat.le_of_ble_eq_true rfl) dL_law_258 ⟨by show _ ≤ 601024; omega, by show _ ≤ 7293034; omega⟩ ?_
  refine g_top (y := nI kc) h6 ?_
  refine g_iload X dL_law_261 rfl ?_
  refine g_icmp_eq (tgt := 268) X dL_law_263 (by decide) (fun c1 => ?_) (fun c1 => absurd rfl c1)
  refine g_iload X dL_law_268 rfl ?_
  refine g_if_ne (tgt := 285) X dL_law_270 (by decide) (fun c2 => ?_) (fun c2 => ?_)
  · refine g_goto (tgt := 1534) X dL_law_285 (by decide) ?_
    exact kk _ _ hI9 (by simp [gl_le, LSl])
  · have hk0 := nI_z hk3 c2
    refine g_aload_n X dL_law_273 rfl rfl ?_
    refine g_iconstN X 0 dL_law_274 ?_
    refine g_ald_30 X rfl (by omega) dL_law_275 ?_
    refine g_iload X dL_law_276 rfl ?_
    refine g_i2l X dL_law_278 rfl ?_
    refine g_topL2 (h30 hk0) ?_
    refine g_lcmp X dL_law_279 ?_
    refine g_if_eq (tgt := 285) X dL_law_280 (by decide) (fun c3 => ?_) (fun c3 => absurd (lg_self _) c3)
    refine g_goto (tgt := 1534) X dL_law_285 (by decide) ?_
    exact kk _ _ hI9 (by simp [gl_le, LSl])
set_option maxRecDepth 20000 in
theorem law_c2 (X : CX p s m args c cL_law RL 9 wsL_law γ A) (Y : CL l s A b Lx xs) (hj : inj γ) (ht : 4 * t + 4 ≤ Lx) (hK : t ≤ 999) (hI : INV σ t) (hk : k + 1 ≤ 601024) (hn : n + 6 ≤ 7293034)
    (kk : ∀ (ls : List (Option Value)) (σ2 : gS), INV σ2 (t + 1) → gl_le (LSl γ b t) ls → G p l e room_1 s m args below meth c γ A 9 (k + 1) (n + 6) Q 1534 ls [] σ2) : G p l e room_1 s m args below meth c γ A 9 k n Q 288 (LSl γ b t) [] σ := by
  unfold LSl
  obtain ⟨kc, σ1, hk3, hH, pM, hM, hpost⟩ := s_guarantee l γ hI hK (xs (4 * t + 1)) (xs (4 * t + 2)) (xs (4 * t + 3))
  refine g_aload_n X dL_law_288 rfl rfl ?_
  refine g_aload_n X dL_law_289 rfl rfl ?_
  refine g_iload X dL_law_290 rfl ?_
  refine g_iconstN X 1 dL_law_292 ?_
  refine g_iaddN X dL_law_293 ?_
  refine g_xld X Y (by omega) dL_law_294 ?_
  refine g_aload_n X dL_law_295 rfl rfl ?_
  refine g_iload X dL_law_296 rfl ?_
  refine g_iconstN X 2 dL_law_298 ?_
  refine g_iaddN X dL_law_299 ?_
  refine g_xld X Y (by omega) dL_law_300 ?_
  refine g_aload_n X dL_law_301 rfl rfl ?_
  refine g_iload X dL_law_302 rfl ?_
  refine g_iconstN X 3 dL_law_304 ?_
  refine g_iaddN X dL_law_305 ?_
  refine g_xld X Y (by omega) dL_law_306 ?_
  refine g_aload_n X dL_law_307 rfl rfl ?_
  refine g_callH (na := 5) X Y hj _ hH gL_law_L_guarantee rfl ⟨rfl, rfl⟩ (by decide +kernel) rfl ⟨by decide, by decide⟩ rfl (Nat.le_of_ble_eq_true rfl) dL_law_308 ⟨by show _ ≤ 601024; omega, by show _ ≤ 7293034; omega⟩ (fun v9 σ9 h9 => ?_)
  obtain ⟨rfl, rfl⟩ := h9
  refine g_istore_s5 X dL_law_311 (by decide) rfl ?_
  refine g_aload_n X dL_law_313 rfl rfl ?_
  refine g_aload_n X dL_law_314 rfl rfl ?_
  refine g_iload X dL_law_315 rfl ?_
  refine g_iconstN X 1 dL_law_317 ?_
  refine g_iaddN X dL_law_318 ?_
  refine g_xld X Y (by omega) dL_law_319 ?_
  refine g_aload_n X dL_law_320 rfl rfl ?_
  refine g_iload X dL_law_321 rfl ?_
  refine g_iconstN X 2 dL_law_323 ?_
  refine g_iaddN X dL_law_324 ?_
  refine g_xld X Y (by omega) dL_law_325 ?_
  refine g_aload_n X dL_law_326 rfl rfl ?_
  refine g_iload X dL_law_327 rfl ?_
  refine g_iconstN X 3 dL_law_329 ?_
  refine g_iaddN X dL_law_330 ?_
  refine g_xld X Y (by omega) dL_law_331 ?_
  refine g_callV (na := 3) X hj [.int (xs (4 * t + 1)), .int (xs (4 * t + 2)), .int (xs (4 * t + 3))] hM gW_23 rfl gL_law_X5_guarantee rfl ⟨rfl, rfl⟩ (by decide +kernel) rfl ⟨by decide, by decide⟩ rfl (Nat.le_of_ble_eq_true rfl) dL_law_332 ⟨by show _ ≤ 601024; omega, by show _ ≤ 7293034; omega⟩ (fun v9 σ9 h9 => ?_)
  obtain ⟨b9, rfl, h6, h30, hI9⟩ := hpost v9 σ9 h9
  refine g_istore_s6 X dL_law_335 (by decide) rfl ?_
  refine g_aload_n X dL_law_337 rfl rfl ?_
  refine g_callVi (na := 0) X hj (k_X5_thrown l γ _) gW_23 rfl gL_law_X5_thrown rfl ⟨rfl, rfl⟩ (by decide +kernel) rfl ⟨by decide, by decide⟩ rfl (Nat.le_of_ble_eq_true rfl) dL_law_338 ⟨by show _ ≤ 601024; omega, by show _ ≤ 7293034; omega⟩ ?_
  refine g_top (y := nI kc) h6 ?_
  refine g_iload X dL_law_341 rfl ?_
  refine g_icmp_eq (tgt := 348) X dL_law_343 (by decide) (fun c1 => ?_) (fun c1 => absurd rfl c1)
  refine g_iload X dL_law_348 rfl ?_
  refine g_if_ne (tgt := 365) X dL_law_350 (by decide) (fun c2 => ?_) (fun c2 => ?_)
  · refine g_goto (tgt := 1534) X dL_law_365 (by decide) ?_
    exact kk _ _ hI9 (by simp [gl_le, LSl])
  · have hk0 := nI_z hk3 c2
    refine g_aload_n X dL_law_353 rfl rfl ?_
    refine g_iconstN X 0 dL_law_354 ?_
    refine g_ald_30 X rfl (by omega) dL_law_355 ?_
    refine g_iload X dL_law_356 rfl ?_
    refine g_i2l X dL_law_358 rfl ?_
    refine g_topL2 (h30 hk0) ?_
    refine g_lcmp X dL_law_359 ?_
    refine g_if_eq (tgt := 365) X dL_law_360 (by decide) (fun c3 => ?_) (fun c3 => absurd (lg_self _) c3)
    refine g_goto (tgt := 1534) X dL_law_365 (by decide) ?_
    exact kk _ _ hI9 (by simp [gl_le, LSl])
set_option maxRecDepth 20000 in
theorem law_c3 (X : CX p s m args c cL_law RL 9 wsL_law γ A) (Y : CL l s A b Lx xs) (hj : inj γ) (ht : 4 * t + 4 ≤ Lx) (hK : t ≤ 999) (hI : INV σ t) (hk : k + 1 ≤ 601024) (hn : n + 6 ≤ 7293034)
    (kk : ∀ (ls : List (Option Value)) (σ2 : gS), INV σ2 (t + 1) → gl_le (LSl γ b t) ls → G p l e room_1 s m args below meth c γ A 9 (k + 1) (n + 6) Q 1534 ls [] σ2) : G p l e room_1 s m args below meth c γ A 9 k n Q 368 (LSl γ b t) [] σ := by
  unfold LSl
  obtain ⟨kc, σ1, hk3, hH, pM, hM, hpost⟩ := s_repay l γ hI hK (xs (4 * t + 1)) (xs (4 * t + 2)) (xs (4 * t + 3))
  refine g_aload_n X dL_law_368 rfl rfl ?_
  refine g_aload_n X dL_law_369 rfl rfl ?_
  refine g_iload X dL_law_370 rfl ?_
  refine g_iconstN X 1 dL_law_372 ?_
  refine g_iaddN X dL_law_373 ?_
  refine g_xld X Y (by omega) dL_law_374 ?_
  refine g_aload_n X dL_law_375 rfl rfl ?_
  refine g_iload X dL_law_376 rfl ?_
  refine g_iconstN X 2 dL_law_378 ?_
  refine g_iaddN X dL_law_379 ?_
  refine g_xld X Y (by omega) dL_law_380 ?_
  refine g_aload_n X dL_law_381 rfl rfl ?_
  refine g_iload X dL_law_382 rfl ?_
  refine g_iconstN X 3 dL_law_384 ?_
  refine g_iaddN X dL_law_385 ?_
  refine g_xld X Y (by omega) dL_law_386 ?_
  refine g_aload_n X dL_law_387 rfl rfl ?_
  refine g_callH (na := 5) X Y hj _ hH gL_law_L_repay rfl ⟨rfl, rfl⟩ (by decide +kernel) rfl ⟨by decide, by decide⟩ rfl (Nat.le_of_ble_eq_true rfl) dL_law_388 ⟨by show _ ≤ 601024; omega, by show _ ≤ 7293034; omega⟩ (fun v9 σ9 h9 => ?_)
  obtain ⟨rfl, rfl⟩ := h9
  refine g_istore_s5 X dL_law_391 (by decide) rfl ?_
  refine g_aload_n X dL_law_393 rfl rfl ?_
  refine g_aload_n X dL_law_394 rfl rfl ?_
  refine g_iload X dL_law_395 rfl ?_
  refine g_iconstN X 1 dL_law_397 ?_
  refine g_iaddN X dL_law_398 ?_
  refine g_xld X Y (by omega) dL_law_399 ?_
  refine g_aload_n X dL_law_400 rfl rfl ?_
  refine g_iload X dL_law_401 rfl ?_
  refine g_iconstN X 2 dL_law_403 ?_
  refine g_iaddN X dL_law_404 ?_
  refine g_xld X Y (by omega) dL_law_405 ?_
  refine g_aload_n X dL_law_406 rfl rfl ?_
  refine g_iload X dL_law_407 rfl ?_
  refine g_iconstN X 3 dL_law_409 ?_
  refine g_iaddN X dL_law_410 ?_
  refine g_xld X Y (by omega) dL_law_411 ?_
  refine g_callV (na := 3) X hj [.int (xs (4 * t + 1)), .int (xs (4 * t + 2)), .int (xs (4 * t + 3))] hM gW_23 rfl gL_law_X5_repay rfl ⟨rfl, rfl⟩ (by decide +kernel) rfl ⟨by decide, by decide⟩ rfl (Nat.le_of_ble_eq_true rfl) dL_law_412 ⟨by show _ ≤ 601024; omega, by show _ ≤ 7293034; omega⟩ (fun v9 σ9 h9 => ?_)
  obtain ⟨b9, rfl, h6, h30, hI9⟩ := hpost v9 σ9 h9
  refine g_istore_s6 X dL_law_415 (by decide) rfl ?_
  refine g_aload_n X dL_law_417 rfl rfl ?_
  refine g_callVi (na := 0) X hj (k_X5_thrown l γ _) gW_23 rfl gL_law_X5_thrown rfl ⟨rfl, rfl⟩ (by decide +kernel) rfl ⟨by decide, by decide⟩ rfl (Nat.le_of_ble_eq_true rfl) dL_law_418 ⟨by show _ ≤ 601024; omega, by show _ ≤ 7293034; omega⟩ ?_
  refine g_top (y := nI kc) h6 ?_
  refine g_iload X dL_law_421 rfl ?_
  refine g_icmp_eq (tgt := 428) X dL_law_423 (by decide) (fun c1 => ?_) (fun c1 => absurd rfl c1)
  refine g_iload X dL_law_428 rfl ?_
  refine g_if_ne (tgt := 445) X dL_law_430 (by decide) (fun c2 => ?_) (fun c2 => ?_)
  · refine g_goto (tgt := 1534) X dL_law_445 (by decide) ?_
    exact kk _ _ hI9 (by simp [gl_le, LSl])
  · have hk0 := nI_z hk3 c2
    refine g_aload_n X dL_law_433 rfl rfl ?_
    refine g_iconstN X 0 dL_law_434 ?_
    refine g_ald_30 X rfl (by omega) dL_law_435 ?_
    refine g_iload X dL_law_436 rfl ?_
    refine g_i2l X dL_law_438 rfl ?_
    refine g_topL2 (h30 hk0) ?_
    refine g_lcmp X dL_law_439 ?_
    refine g_if_eq (tgt := 445) X dL_law_440 (by decide) (fun c3 => ?_) (fun c3 => absurd (lg_self _) c3)
    refine g_goto (tgt := 1534) X dL_law_445 (by decide) ?_
    exact kk _ _ hI9 (by simp [gl_le, LSl])
set_option maxRecDepth 20000 in
theorem law_c4 (X : CX p s m args c cL_law RL 9 wsL_law γ A) (Y : CL l s A b Lx xs) (hj : inj γ) (ht : 4 * t + 4 ≤ Lx) (hK : t ≤ 999) (hI : INV σ t) (hk : k + 1 ≤ 601024) (hn : n + 6 ≤ 7293034)
    (kk : ∀ (ls : List (Option Value)) (σ2 : gS), INV σ2 (t + 1) → gl_le (LSl γ b t) ls → G p l e room_1 s m args below meth c γ A 9 (k + 1) (n + 6) Q 1534 ls [] σ2) : G p l e room_1 s m args below meth c γ A 9 k n Q 448 (LSl γ b t) [] σ := by
  unfold LSl
  obtain ⟨kc, σ1, hk3, hH, pM, hM, hpost⟩ := s_set l γ hI hK (xs (4 * t + 1)) (xs (4 * t + 2))
  refine g_aload_n X dL_law_448 rfl rfl ?_
  refine g_aload_n X dL_law_449 rfl rfl ?_
  refine g_iload X dL_law_450 rfl ?_
  refine g_iconstN X 1 dL_law_452 ?_
  refine g_iaddN X dL_law_453 ?_
  refine g_xld X Y (by omega) dL_law_454 ?_
  refine g_aload_n X dL_law_455 rfl rfl ?_
  refine g_iload X dL_law_456 rfl ?_
  refine g_iconstN X 2 dL_law_458 ?_
  refine g_iaddN X dL_law_459 ?_
  refine g_xld X Y (by omega) dL_law_460 ?_
  refine g_aload_n X dL_law_461 rfl rfl ?_
  refine g_callH (na := 4) X Y hj _ hH gL_law_L_set rfl ⟨rfl, rfl⟩ (by decide +kernel) rfl ⟨by decide, by decide⟩ rfl (Nat.le_of_ble_eq_true rfl) dL_law_462 ⟨by show _ ≤ 601024; omega, by show _ ≤ 7293034; omega⟩ (fun v9 σ9 h9 => ?_)
  obtain ⟨rfl, rfl⟩ := h9
  refine g_istore_s5 X dL_law_465 (by decide) rfl ?_
  refine g_aload_n X dL_law_467 rfl rfl ?_
  refine g_aload_n X dL_law_468 rfl rfl ?_
  refine g_iload X dL_law_469 rfl ?_
  refine g_iconstN X 1 dL_law_471 ?_
  refine g_iaddN X dL_law_472 ?_
  refine g_xld X Y (by omega) dL_law_473 ?_
  refine g_aload_n X dL_law_474 rfl rfl ?_
  refine g_iload X dL_law_475 rfl ?_
  refine g_iconstN X 2 dL_law_477 ?_
  refine g_iaddN X dL_law_478 ?_
  refine g_xld X Y (by omega) dL_law_479 ?_
  refine g_callV (na := 2) X hj [.int (xs (4 * t + 1)), .int (xs (4 * t + 2))] hM gW_23 rfl gL_law_X5_set rfl ⟨rfl, rfl⟩ (by decide +kernel) rfl ⟨by decide, by decide⟩ rfl (Nat.le_of_ble_eq_true rfl) dL_law_480 ⟨by show _ ≤ 601024; omega, by show _ ≤ 7293034; omega⟩ (fun v9 σ9 h9 => ?_)
  obtain ⟨b9, rfl, h6, h30, hI9⟩ := hpost v9 σ9 h9
  refine g_istore_s6 X dL_law_483 (by decide) rfl ?_
  refine g_aload_n X dL_law_485 rfl rfl ?_
  refine g_callVi (na := 0) X hj (k_X5_thrown l γ _) gW_23 rfl gL_law_X5_thrown rfl ⟨rfl, rfl⟩ (by decide +kernel) rfl ⟨by decide, by decide⟩ rfl (Nat.le_of_ble_eq_true rfl) dL_law_486 ⟨by show _ ≤ 601024; omega, by show _ ≤ 7293034; omega⟩ ?_
  refine g_top (y := nI kc) h6 ?_
  refine g_iload X dL_law_489 rfl ?_
  refine g_icmp_eq (tgt := 496) X dL_law_491 (by decide) (fun c1 => ?_) (fun c1 => absurd rfl c1)
  refine g_iload X dL_law_496 rfl ?_
  refine g_if_ne (tgt := 513) X dL_law_498 (by decide) (fun c2 => ?_) (fun c2 => ?_)
  · refine g_goto (tgt := 1534) X dL_law_513 (by decide) ?_
    exact kk _ _ hI9 (by simp [gl_le, LSl])
  · have hk0 := nI_z hk3 c2
    refine g_aload_n X dL_law_501 rfl rfl ?_
    refine g_iconstN X 0 dL_law_502 ?_
    refine g_ald_30 X rfl (by omega) dL_law_503 ?_
    refine g_iload X dL_law_504 rfl ?_
    refine g_i2l X dL_law_506 rfl ?_
    refine g_topL2 (h30 hk0) ?_
    refine g_lcmp X dL_law_507 ?_
    refine g_if_eq (tgt := 513) X dL_law_508 (by decide) (fun c3 => ?_) (fun c3 => absurd (lg_self _) c3)
    refine g_goto (tgt := 1534) X dL_law_513 (by decide) ?_
    exact kk _ _ hI9 (by simp [gl_le, LSl])
set_option maxRecDepth 20000 in
theorem law_c5 (X : CX p s m args c cL_law RL 9 wsL_law γ A) (Y : CL l s A b Lx xs) (hj : inj γ) (ht : 4 * t + 4 ≤ Lx) (hK : t ≤ 999) (hI : INV σ t) (hk : k + 1 ≤ 601024) (hn : n + 6 ≤ 7293034)
    (kk : ∀ (ls : List (Option Value)) (σ2 : gS), INV σ2 (t + 1) → gl_le (LSl γ b t) ls → G p l e room_1 s m args below meth c γ A 9 (k + 1) (n + 6) Q 1534 ls [] σ2) : G p l e room_1 s m args below meth c γ A 9 k n Q 516 (LSl γ b t) [] σ := by
  unfold LSl
  obtain ⟨kc, σ1, hk3, hH, pM, hM, hpost⟩ := s_call l γ hI hK (xs (4 * t + 1)) (xs (4 * t + 2)) (xs (4 * t + 3))
  refine g_aload_n X dL_law_516 rfl rfl ?_
  refine g_aload_n X dL_law_517 rfl rfl ?_
  refine g_iload X dL_law_518 rfl ?_
  refine g_iconstN X 1 dL_law_520 ?_
  refine g_iaddN X dL_law_521 ?_
  refine g_xld X Y (by omega) dL_law_522 ?_
  refine g_aload_n X dL_law_523 rfl rfl ?_
  refine g_iload X dL_law_524 rfl ?_
  refine g_iconstN X 2 dL_law_526 ?_
  refine g_iaddN X dL_law_527 ?_
  refine g_xld X Y (by omega) dL_law_528 ?_
  refine g_aload_n X dL_law_529 rfl rfl ?_
  refine g_iload X dL_law_530 rfl ?_
  refine g_iconstN X 3 dL_law_532 ?_
  refine g_iaddN X dL_law_533 ?_
  refine g_xld X Y (by omega) dL_law_534 ?_
  refine g_aload_n X dL_law_535 rfl rfl ?_
  refine g_callH (na := 5) X Y hj _ hH gL_law_L_call rfl ⟨rfl, rfl⟩ (by decide +kernel) rfl ⟨by decide, by decide⟩ rfl (Nat.le_of_ble_eq_true rfl) dL_law_536 ⟨by show _ ≤ 601024; omega, by show _ ≤ 7293034; omega⟩ (fun v9 σ9 h9 => ?_)
  obtain ⟨rfl, rfl⟩ := h9
  refine g_istore_s5 X dL_law_539 (by decide) rfl ?_
  refine g_aload_n X dL_law_541 rfl rfl ?_
  refine g_aload_n X dL_law_542 rfl rfl ?_
  refine g_iload X dL_law_543 rfl ?_
  refine g_iconstN X 1 dL_law_545 ?_
  refine g_iaddN X dL_law_546 ?_
  refine g_xld X Y (by omega) dL_law_547 ?_
  refine g_aload_n X dL_law_548 rfl rfl ?_
  refine g_iload X dL_law_549 rfl ?_
  refine g_iconstN X 2 dL_law_551 ?_
  refine g_iaddN X dL_law_552 ?_
  refine g_xld X Y (by omega) dL_law_553 ?_
  refine g_aload_n X dL_law_554 rfl rfl ?_
  refine g_iload X dL_law_555 rfl ?_
  refine g_iconstN X 3 dL_law_557 ?_
  refine g_iaddN X dL_law_558 ?_
  refine g_xld X Y (by omega) dL_law_559 ?_
  refine g_callV (na := 3) X hj [.int (xs (4 * t + 1)), .int (xs (4 * t + 2)), .int (xs (4 * t + 3))] hM gW_23 rfl gL_law_X5_call rfl ⟨rfl, rfl⟩ (by decide +kernel) rfl ⟨by decide, by decide⟩ rfl (Nat.le_of_ble_eq_true rfl) dL_law_560 ⟨by show _ ≤ 601024; omega, by show _ ≤ 7293034; omega⟩ (fun v9 σ9 h9 => ?_)
  obtain ⟨b9, rfl, h6, h30, hI9⟩ := hpost v9 σ9 h9
  refine g_istore_s6 X dL_law_563 (by decide) rfl ?_
  refine g_aload_n X dL_law_565 rfl rfl ?_
  refine g_callVi (na := 0) X hj (k_X5_thrown l γ _) gW_23 rfl gL_law_X5_thrown rfl ⟨rfl, rfl⟩ (by decide +kernel) rfl ⟨by decide, by decide⟩ rfl (Nat.le_of_ble_eq_true rfl) dL_law_566 ⟨by show _ ≤ 601024; omega, by show _ ≤ 7293034; omega⟩ ?_
  refine g_top (y := nI kc) h6 ?_
  refine g_iload X dL_law_569 rfl ?_
  refine g_icmp_eq (tgt := 576) X dL_law_571 (by decide) (fun c1 => ?_) (fun c1 => absurd rfl c1)
  refine g_iload X dL_law_576 rfl ?_
  refine g_if_ne (tgt := 593) X dL_law_578 (by decide) (fun c2 => ?_) (fun c2 => ?_)
  · refine g_goto (tgt := 1534) X dL_law_593 (by decide) ?_
    exact kk _ _ hI9 (by simp [gl_le, LSl])
  · have hk0 := nI_z hk3 c2
    refine g_aload_n X dL_law_581 rfl rfl ?_
    refine g_iconstN X 0 dL_law_582 ?_
    refine g_ald_30 X rfl (by omega) dL_law_583 ?_
    refine g_iload X dL_law_584 rfl ?_
    refine g_i2l X dL_law_586 rfl ?_
    refine g_topL2 (h30 hk0) ?_
    refine g_lcmp X dL_law_587 ?_
    refine g_if_eq (tgt := 593) X dL_law_588 (by decide) (fun c3 => ?_) (fun c3 => absurd (lg_self _) c3)
    refine g_goto (tgt := 1534) X dL_law_593 (by decide) ?_
    exact kk _ _ hI9 (by simp [gl_le, LSl])
set_option maxRecDepth 20000 in
theorem law_c6 (X : CX p s m args c cL_law RL 9 wsL_law γ A) (Y : CL l s A b Lx xs) (hj : inj γ) (ht : 4 * t + 4 ≤ Lx) (hK : t ≤ 999) (hI : INV σ t) (hk : k + 1 ≤ 601024) (hn : n + 6 ≤ 7293034)
    (kk : ∀ (ls : List (Option Value)) (σ2 : gS), INV σ2 (t + 1) → gl_le (LSl γ b t) ls → G p l e room_1 s m args below meth c γ A 9 (k + 1) (n + 6) Q 1534 ls [] σ2) : G p l e room_1 s m args below meth c γ A 9 k n Q 596 (LSl γ b t) [] σ := by
  unfold LSl
  obtain ⟨kc, σ1, hk3, hH, pM, hM, hpost⟩ := s_reach l γ hI hK (xs (4 * t + 1))
  refine g_aload_n X dL_law_596 rfl rfl ?_
  refine g_aload_n X dL_law_597 rfl rfl ?_
  refine g_iload X dL_law_598 rfl ?_
  refine g_iconstN X 1 dL_law_600 ?_
  refine g_iaddN X dL_law_601 ?_
  refine g_xld X Y (by omega) dL_law_602 ?_
  refine g_aload_n X dL_law_603 rfl rfl ?_
  refine g_callH (na := 3) X Y hj _ hH gL_law_L_reach rfl ⟨rfl, rfl⟩ (by decide +kernel) rfl ⟨by decide, by decide⟩ rfl (Nat.le_of_ble_eq_true rfl) dL_law_604 ⟨by show _ ≤ 601024; omega, by show _ ≤ 7293034; omega⟩ (fun v9 σ9 h9 => ?_)
  obtain ⟨rfl, rfl⟩ := h9
  refine g_istore_s5 X dL_law_607 (by decide) rfl ?_
  refine g_aload_n X dL_law_609 rfl rfl ?_
  refine g_aload_n X dL_law_610 rfl rfl ?_
  refine g_iload X dL_law_611 rfl ?_
  refine g_iconstN X 1 dL_law_613 ?_
  refine g_iaddN X dL_law_614 ?_
  refine g_xld X Y (by omega) dL_law_615 ?_
  refine g_callV (na := 1) X hj [.int (xs (4 * t + 1))] hM gW_23 rfl gL_law_X5_reach rfl ⟨rfl, rfl⟩ (by decide +kernel) rfl ⟨by decide, by decide⟩ rfl (Nat.le_of_ble_eq_true rfl) dL_law_616 ⟨by show _ ≤ 601024; omega, by show _ ≤ 7293034; omega⟩ (fun v9 σ9 h9 => ?_)
  obtain ⟨b9, rfl, h6, h30, hI9⟩ := hpost v9 σ9 h9
  refine g_istore_s6 X dL_law_619 (by decide) rfl ?_
  refine g_aload_n X dL_law_621 rfl rfl ?_
  refine g_callVi (na := 0) X hj (k_X5_thrown l γ _) gW_23 rfl gL_law_X5_thrown rfl ⟨rfl, rfl⟩ (by decide +kernel) rfl ⟨by decide, by decide⟩ rfl (Nat.le_of_ble_eq_true rfl) dL_law_622 ⟨by show _ ≤ 601024; omega, by show _ ≤ 7293034; omega⟩ ?_
  refine g_top (y := nI kc) h6 ?_
  refine g_iload X dL_law_625 rfl ?_
  refine g_icmp_eq (tgt := 632) X dL_law_627 (by decide) (fun c1 => ?_) (fun c1 => absurd rfl c1)
  refine g_iload X dL_law_632 rfl ?_
  refine g_if_ne (tgt := 649) X dL_law_634 (by decide) (fun c2 => ?_) (fun c2 => ?_)
  · refine g_goto (tgt := 1534) X dL_law_649 (by decide) ?_
    exact kk _ _ hI9 (by simp [gl_le, LSl])
  · have hk0 := nI_z hk3 c2
    refine g_aload_n X dL_law_637 rfl rfl ?_
    refine g_iconstN X 0 dL_law_638 ?_
    refine g_ald_30 X rfl (by omega) dL_law_639 ?_
    refine g_iload X dL_law_640 rfl ?_
    refine g_i2l X dL_law_642 rfl ?_
    refine g_topL2 (h30 hk0) ?_
    refine g_lcmp X dL_law_643 ?_
    refine g_if_eq (tgt := 649) X dL_law_644 (by decide) (fun c3 => ?_) (fun c3 => absurd (lg_self _) c3)
    refine g_goto (tgt := 1534) X dL_law_649 (by decide) ?_
    exact kk _ _ hI9 (by simp [gl_le, LSl])
set_option maxRecDepth 20000 in
theorem law_c7 (X : CX p s m args c cL_law RL 9 wsL_law γ A) (Y : CL l s A b Lx xs) (hj : inj γ) (ht : 4 * t + 4 ≤ Lx) (hK : t ≤ 999) (hI : INV σ t) (hk : k + 1 ≤ 601024) (hn : n + 6 ≤ 7293034)
    (kk : ∀ (ls : List (Option Value)) (σ2 : gS), INV σ2 (t + 1) → gl_le (LSl γ b t) ls → G p l e room_1 s m args below meth c γ A 9 (k + 1) (n + 6) Q 1534 ls [] σ2) : G p l e room_1 s m args below meth c γ A 9 k n Q 652 (LSl γ b t) [] σ := by
  unfold LSl
  obtain ⟨kc, σ1, hk3, hH, pM, hM, hpost⟩ := s_end l γ hI hK (xs (4 * t + 1))
  refine g_aload_n X dL_law_652 rfl rfl ?_
  refine g_aload_n X dL_law_653 rfl rfl ?_
  refine g_iload X dL_law_654 rfl ?_
  refine g_iconstN X 1 dL_law_656 ?_
  refine g_iaddN X dL_law_657 ?_
  refine g_xld X Y (by omega) dL_law_658 ?_
  refine g_aload_n X dL_law_659 rfl rfl ?_
  refine g_callH (na := 3) X Y hj _ hH gL_law_L_end rfl ⟨rfl, rfl⟩ (by decide +kernel) rfl ⟨by decide, by decide⟩ rfl (Nat.le_of_ble_eq_true rfl) dL_law_660 ⟨by show _ ≤ 601024; omega, by show _ ≤ 7293034; omega⟩ (fun v9 σ9 h9 => ?_)
  obtain ⟨rfl, rfl⟩ := h9
  refine g_istore_s5 X dL_law_663 (by decide) rfl ?_
  refine g_aload_n X dL_law_665 rfl rfl ?_
  refine g_aload_n X dL_law_666 rfl rfl ?_
  refine g_iload X dL_law_667 rfl ?_
  refine g_iconstN X 1 dL_law_669 ?_
  refine g_iaddN X dL_law_670 ?_
  refine g_xld X Y (by omega) dL_law_671 ?_
  refine g_callV (na := 1) X hj [.int (xs (4 * t + 1))] hM gW_23 rfl gL_law_X5_end rfl ⟨rfl, rfl⟩ (by decide +kernel) rfl ⟨by decide, by decide⟩ rfl (Nat.le_of_ble_eq_true rfl) dL_law_672 ⟨by show _ ≤ 601024; omega, by show _ ≤ 7293034; omega⟩ (fun v9 σ9 h9 => ?_)
  obtain ⟨b9, rfl, h6, h30, hI9⟩ := hpost v9 σ9 h9
  refine g_istore_s6 X dL_law_675 (by decide) rfl ?_
  refine g_aload_n X dL_law_677 rfl rfl ?_
  refine g_callVi (na := 0) X hj (k_X5_thrown l γ _) gW_23 rfl gL_law_X5_thrown rfl ⟨rfl, rfl⟩ (by decide +kernel) rfl ⟨by decide, by decide⟩ rfl (Nat.le_of_ble_eq_true rfl) dL_law_678 ⟨by show _ ≤ 601024; omega, by show _ ≤ 7293034; omega⟩ ?_
  refine g_top (y := nI kc) h6 ?_
  refine g_iload X dL_law_681 rfl ?_
  refine g_icmp_eq (tgt := 688) X dL_law_683 (by decide) (fun c1 => ?_) (fun c1 => absurd rfl c1)
  refine g_iload X dL_law_688 rfl ?_
  refine g_if_ne (tgt := 705) X dL_law_690 (by decide) (fun c2 => ?_) (fun c2 => ?_)
  · refine g_goto (tgt := 1534) X dL_law_705 (by decide) ?_
    exact kk _ _ hI9 (by simp [gl_le, LSl])
  · have hk0 := nI_z hk3 c2
    refine g_aload_n X dL_law_693 rfl rfl ?_
    refine g_iconstN X 0 dL_law_694 ?_
    refine g_ald_30 X rfl (by omega) dL_law_695 ?_
    refine g_iload X dL_law_696 rfl ?_
    refine g_i2l X dL_law_698 rfl ?_
    refine g_topL2 (h30 hk0) ?_
    refine g_lcmp X dL_law_699 ?_
    refine g_if_eq (tgt := 705) X dL_law_700 (by decide) (fun c3 => ?_) (fun c3 => absurd (lg_self _) c3)
    refine g_goto (tgt := 1534) X dL_law_705 (by decide) ?_
    exact kk _ _ hI9 (by simp [gl_le, LSl])
set_option maxRecDepth 20000 in
theorem law_c8 (X : CX p s m args c cL_law RL 9 wsL_law γ A) (Y : CL l s A b Lx xs) (hj : inj γ) (ht : 4 * t + 4 ≤ Lx) (hK : t ≤ 999) (hI : INV σ t) (hk : k + 1 ≤ 601024) (hn : n + 6 ≤ 7293034)
    (kk : ∀ (ls : List (Option Value)) (σ2 : gS), INV σ2 (t + 1) → gl_le (LSl γ b t) ls → G p l e room_1 s m args below meth c γ A 9 (k + 1) (n + 6) Q 1534 ls [] σ2) : G p l e room_1 s m args below meth c γ A 9 k n Q 708 (LSl γ b t) [] σ := by
  unfold LSl
  obtain ⟨kc, σ1, hk3, hH, pM, hM, hpost⟩ := s_append l γ hI hK (xs (4 * t + 1))
  refine g_aload_n X dL_law_708 rfl rfl ?_
  refine g_aload_n X dL_law_709 rfl rfl ?_
  refine g_iload X dL_law_710 rfl ?_
  refine g_iconstN X 1 dL_law_712 ?_
  refine g_iaddN X dL_law_713 ?_
  refine g_xld X Y (by omega) dL_law_714 ?_
  refine g_aload_n X dL_law_715 rfl rfl ?_
  refine g_callH (na := 3) X Y hj _ hH gL_law_L_append rfl ⟨rfl, rfl⟩ (by decide +kernel) rfl ⟨by decide, by decide⟩ rfl (Nat.le_of_ble_eq_true rfl) dL_law_716 ⟨by show _ ≤ 601024; omega, by show _ ≤ 7293034; omega⟩ (fun v9 σ9 h9 => ?_)
  obtain ⟨rfl, rfl⟩ := h9
  refine g_istore_s5 X dL_law_719 (by decide) rfl ?_
  refine g_aload_n X dL_law_721 rfl rfl ?_
  refine g_aload_n X dL_law_722 rfl rfl ?_
  refine g_iload X dL_law_723 rfl ?_
  refine g_iconstN X 1 dL_law_725 ?_
  refine g_iaddN X dL_law_726 ?_
  refine g_xld X Y (by omega) dL_law_727 ?_
  refine g_callV (na := 1) X hj [.int (xs (4 * t + 1))] hM gW_23 rfl gL_law_X5_append rfl ⟨rfl, rfl⟩ (by decide +kernel) rfl ⟨by decide, by decide⟩ rfl (Nat.le_of_ble_eq_true rfl) dL_law_728 ⟨by show _ ≤ 601024; omega, by show _ ≤ 7293034; omega⟩ (fun v9 σ9 h9 => ?_)
  obtain ⟨b9, rfl, h6, h30, hI9⟩ := hpost v9 σ9 h9
  refine g_istore_s6 X dL_law_731 (by decide) rfl ?_
  refine g_aload_n X dL_law_733 rfl rfl ?_
  refine g_callVi (na := 0) X hj (k_X5_thrown l γ _) gW_23 rfl gL_law_X5_thrown rfl ⟨rfl, rfl⟩ (by decide +kernel) rfl ⟨by decide, by decide⟩ rfl (Nat.le_of_ble_eq_true rfl) dL_law_734 ⟨by show _ ≤ 601024; omega, by show _ ≤ 7293034; omega⟩ ?_
  refine g_top (y := nI kc) h6 ?_
  refine g_iload X dL_law_737 rfl ?_
  refine g_icmp_eq (tgt := 744) X dL_law_739 (by decide) (fun c1 => ?_) (fun c1 => absurd rfl c1)
  refine g_iload X dL_law_744 rfl ?_
  refine g_if_ne (tgt := 761) X dL_law_746 (by decide) (fun c2 => ?_) (fun c2 => ?_)
  · refine g_goto (tgt := 1534) X dL_law_761 (by decide) ?_
    exact kk _ _ hI9 (by simp [gl_le, LSl])
  · have hk0 := nI_z hk3 c2
    refine g_aload_n X dL_law_749 rfl rfl ?_
    refine g_iconstN X 0 dL_law_750 ?_
    refine g_ald_30 X rfl (by omega) dL_law_751 ?_
    refine g_iload X dL_law_752 rfl ?_
    refine g_i2l X dL_law_754 rfl ?_
    refine g_topL2 (h30 hk0) ?_
    refine g_lcmp X dL_law_755 ?_
    refine g_if_eq (tgt := 761) X dL_law_756 (by decide) (fun c3 => ?_) (fun c3 => absurd (lg_self _) c3)
    refine g_goto (tgt := 1534) X dL_law_761 (by decide) ?_
    exact kk _ _ hI9 (by simp [gl_le, LSl])
set_option maxRecDepth 20000 in
theorem law_c9 (X : CX p s m args c cL_law RL 9 wsL_law γ A) (Y : CL l s A b Lx xs) (hj : inj γ) (ht : 4 * t + 4 ≤ Lx) (hK : t ≤ 999) (hI : INV σ t) (hk : k + 1 ≤ 601024) (hn : n + 6 ≤ 7293034)
    (kk : ∀ (ls : List (Option Value)) (σ2 : gS), INV σ2 (t + 1) → gl_le (LSl γ b t) ls → G p l e room_1 s m args below meth c γ A 9 (k + 1) (n + 6) Q 1534 ls [] σ2) : G p l e room_1 s m args below meth c γ A 9 k n Q 764 (LSl γ b t) [] σ := by
  unfold LSl
  obtain ⟨val, ⟨r9, rfl⟩, pC, hC, hc⟩ := s_clearBuffer l γ hI
  refine g_aload_n X dL_law_764 rfl rfl ?_
  refine g_callV (na := 0) X hj [] hC gW_0 rfl gL_law_X4_clearBuffer rfl ⟨rfl, rfl⟩ (by decide +kernel) rfl ⟨by decide, by decide⟩ rfl (Nat.le_of_ble_eq_true rfl) dL_law_765 ⟨by show _ ≤ 601024; omega, by show _ ≤ 7293034; omega⟩ (fun v9 σ9 h9 => ?_)
  obtain ⟨rfl, pM, hM, hm⟩ := hc v9 σ9 h9
  refine g_aload_n X dL_law_768 rfl rfl ?_
  refine g_callV (na := 0) X hj [] hM gW_23 rfl gL_law_X5_clearBuffer rfl ⟨rfl, rfl⟩ (by decide +kernel) rfl ⟨by decide, by decide⟩ rfl (Nat.le_of_ble_eq_true rfl) dL_law_769 ⟨by show _ ≤ 601024; omega, by show _ ≤ 7293034; omega⟩ (fun v8 σ8 h8 => ?_)
  obtain ⟨rfl, hI8⟩ := hm v8 σ8 h8
  exact g_icmp_eq (tgt := 1534) X dL_law_772 (by decide) (fun _ => (g_widen (by omega) (by omega) (kk _ _ hI8 (by simp [gl_le, LSl])))) (fun c1 => absurd rfl c1)
set_option maxRecDepth 20000 in
theorem law_c10 (X : CX p s m args c cL_law RL 9 wsL_law γ A) (Y : CL l s A b Lx xs) (hj : inj γ) (ht : 4 * t + 4 ≤ Lx) (hK : t ≤ 999) (hI : INV σ t) (hk : k + 1 ≤ 601024) (hn : n + 6 ≤ 7293034)
    (kk : ∀ (ls : List (Option Value)) (σ2 : gS), INV σ2 (t + 1) → gl_le (LSl γ b t) ls → G p l e room_1 s m args below meth c γ A 9 (k + 1) (n + 6) Q 1534 ls [] σ2) : G p l e room_1 s m args below meth c γ A 9 k n Q 777 (LSl γ b t) [] σ := by
  unfold LSl
  obtain ⟨val, ⟨r9, rfl⟩, pC, hC, hc⟩ := s_firstError l γ hI
  refine g_aload_n X dL_law_777 rfl rfl ?_
  refine g_callV (na := 0) X hj [] hC gW_0 rfl gL_law_X4_firstError rfl ⟨rfl, rfl⟩ (by decide +kernel) rfl ⟨by decide, by decide⟩ rfl (Nat.le_of_ble_eq_true rfl) dL_law_778 ⟨by show _ ≤ 601024; omega, by show _ ≤ 7293034; omega⟩ (fun v9 σ9 h9 => ?_)
  obtain ⟨rfl, pM, hM, hm⟩ := hc v9 σ9 h9
  refine g_aload_n X dL_law_781 rfl rfl ?_
  refine g_callV (na := 0) X hj [] hM gW_23 rfl gL_law_X5_firstError rfl ⟨rfl, rfl⟩ (by decide +kernel) rfl ⟨by decide, by decide⟩ rfl (Nat.le_of_ble_eq_true rfl) dL_law_782 ⟨by show _ ≤ 601024; omega, by show _ ≤ 7293034; omega⟩ (fun v8 σ8 h8 => ?_)
  obtain ⟨rfl, hI8⟩ := hm v8 σ8 h8
  exact g_icmp_eq (tgt := 1534) X dL_law_785 (by decide) (fun _ => (g_widen (by omega) (by omega) (kk _ _ hI8 (by simp [gl_le, LSl])))) (fun c1 => absurd rfl c1)
set_option maxRecDepth 20000 in
theorem law_c11 (X : CX p s m args c cL_law RL 9 wsL_law γ A) (Y : CL l s A b Lx xs) (hj : inj γ) (ht : 4 * t + 4 ≤ Lx) (hK : t ≤ 999) (hI : INV σ t) (hk : k + 1 ≤ 601024) (hn : n + 6 ≤ 7293034)
    (kk : ∀ (ls : List (Option Value)) (σ2 : gS), INV σ2 (t + 1) → gl_le (LSl γ b t) ls → G p l e room_1 s m args below meth c γ A 9 (k + 1) (n + 6) Q 1534 ls [] σ2) : G p l e room_1 s m args below meth c γ A 9 k n Q 790 (LSl γ b t) [] σ := by
  unfold LSl
  obtain ⟨kc, σ1, hk3, hH, pM, hM, hpost⟩ := s_give l γ hI hK
  refine g_aload_n X dL_law_790 rfl rfl ?_
  refine g_aload_n X dL_law_791 rfl rfl ?_
  refine g_callH (na := 2) X Y hj _ hH gL_law_L_give rfl ⟨rfl, rfl⟩ (by decide +kernel) rfl ⟨by decide, by decide⟩ rfl (Nat.le_of_ble_eq_true rfl) dL_law_792 ⟨by show _ ≤ 601024; omega, by show _ ≤ 7293034; omega⟩ (fun v9 σ9 h9 => ?_)
  obtain ⟨rfl, rfl⟩ := h9
  refine g_istore_s5 X dL_law_795 (by decide) rfl ?_
  refine g_aload_n X dL_law_797 rfl rfl ?_
  refine g_callV (na := 0) X hj [] hM gW_23 rfl gL_law_X5_give rfl ⟨rfl, rfl⟩ (by decide +kernel) rfl ⟨by decide, by decide⟩ rfl (Nat.le_of_ble_eq_true rfl) dL_law_798 ⟨by show _ ≤ 601024; omega, by show _ ≤ 7293034; omega⟩ (fun v9 σ9 h9 => ?_)
  obtain ⟨b9, rfl, h6, h30, hI9⟩ := hpost v9 σ9 h9
  refine g_istore_s6 X dL_law_801 (by decide) rfl ?_
  refine g_aload_n X dL_law_803 rfl rfl ?_
  refine g_callVi (na := 0) X hj (k_X5_thrown l γ _) gW_23 rfl gL_law_X5_thrown rfl ⟨rfl, rfl⟩ (by decide +kernel) rfl ⟨by decide, by decide⟩ rfl (Nat.le_of_ble_eq_true rfl) dL_law_804 ⟨by show _ ≤ 601024; omega, by show _ ≤ 7293034; omega⟩ ?_
  refine g_top (y := nI kc) h6 ?_
  refine g_iload X dL_law_807 rfl ?_
  refine g_icmp_eq (tgt := 814) X dL_law_809 (by decide) (fun c1 => ?_) (fun c1 => absurd rfl c1)
  refine g_iload X dL_law_814 rfl ?_
  refine g_if_ne (tgt := 831) X dL_law_816 (by decide) (fun c2 => ?_) (fun c2 => ?_)
  · refine g_goto (tgt := 1534) X dL_law_831 (by decide) ?_
    exact kk _ _ hI9 (by simp [gl_le, LSl])
  · have hk0 := nI_z hk3 c2
    refine g_aload_n X dL_law_819 rfl rfl ?_
    refine g_iconstN X 0 dL_law_820 ?_
    refine g_ald_30 X rfl (by omega) dL_law_821 ?_
    refine g_iload X dL_law_822 rfl ?_
    refine g_i2l X dL_law_824 rfl ?_
    refine g_topL2 (h30 hk0) ?_
    refine g_lcmp X dL_law_825 ?_
    refine g_if_eq (tgt := 831) X dL_law_826 (by decide) (fun c3 => ?_) (fun c3 => absurd (lg_self _) c3)
    refine g_goto (tgt := 1534) X dL_law_831 (by decide) ?_
    exact kk _ _ hI9 (by simp [gl_le, LSl])
set_option maxRecDepth 20000 in
theorem law_c12 (X : CX p s m args c cL_law RL 9 wsL_law γ A) (Y : CL l s A b Lx xs) (hj : inj γ) (ht : 4 * t + 4 ≤ Lx) (hK : t ≤ 999) (hI : INV σ t) (hk : k + 1 ≤ 601024) (hn : n + 6 ≤ 7293034)
    (kk : ∀ (ls : List (Option Value)) (σ2 : gS), INV σ2 (t + 1) → gl_le (LSl γ b t) ls → G p l e room_1 s m args below meth c γ A 9 (k + 1) (n + 6) Q 1534 ls [] σ2) : G p l e room_1 s m args below meth c γ A 9 k n Q 834 (LSl γ b t) [] σ := by
  unfold LSl
  obtain ⟨kc, σ1, hk3, hH, pM, hM, hpost⟩ := s_undo l γ hI hK
  refine g_aload_n X dL_law_834 rfl rfl ?_
  refine g_aload_n X dL_law_835 rfl rfl ?_
  refine g_callH (na := 2) X Y hj _ hH gL_law_L_undo rfl ⟨rfl, rfl⟩ (by decide +kernel) rfl ⟨by decide, by decide⟩ rfl (Nat.le_of_ble_eq_true rfl) dL_law_836 ⟨by show _ ≤ 601024; omega, by show _ ≤ 7293034; omega⟩ (fun v9 σ9 h9 => ?_)
  obtain ⟨rfl, rfl⟩ := h9
  refine g_istore_s5 X dL_law_839 (by decide) rfl ?_
  refine g_aload_n X dL_law_841 rfl rfl ?_
  refine g_callV (na := 0) X hj [] hM gW_23 rfl gL_law_X5_undo rfl ⟨rfl, rfl⟩ (by decide +kernel) rfl ⟨by decide, by decide⟩ rfl (Nat.le_of_ble_eq_true rfl) dL_law_842 ⟨by show _ ≤ 601024; omega, by show _ ≤ 7293034; omega⟩ (fun v9 σ9 h9 => ?_)
  obtain ⟨b9, rfl, h6, h30, hI9⟩ := hpost v9 σ9 h9
  refine g_istore_s6 X dL_law_845 (by decide) rfl ?_
  refine g_aload_n X dL_law_847 rfl rfl ?_
  refine g_callVi (na := 0) X hj (k_X5_thrown l γ _) gW_23 rfl gL_law_X5_thrown rfl ⟨rfl, rfl⟩ (by decide +kernel) rfl ⟨by decide, by decide⟩ rfl (Nat.le_of_ble_eq_true rfl) dL_law_848 ⟨by show _ ≤ 601024; omega, by show _ ≤ 7293034; omega⟩ ?_
  refine g_top (y := nI kc) h6 ?_
  refine g_iload X dL_law_851 rfl ?_
  refine g_icmp_eq (tgt := 858) X dL_law_853 (by decide) (fun c1 => ?_) (fun c1 => absurd rfl c1)
  refine g_iload X dL_law_858 rfl ?_
  refine g_if_ne (tgt := 875) X dL_law_860 (by decide) (fun c2 => ?_) (fun c2 => ?_)
  · refine g_goto (tgt := 1534) X dL_law_875 (by decide) ?_
    exact kk _ _ hI9 (by simp [gl_le, LSl])
  · have hk0 := nI_z hk3 c2
    refine g_aload_n X dL_law_863 rfl rfl ?_
    refine g_iconstN X 0 dL_law_864 ?_
    refine g_ald_30 X rfl (by omega) dL_law_865 ?_
    refine g_iload X dL_law_866 rfl ?_
    refine g_i2l X dL_law_868 rfl ?_
    refine g_topL2 (h30 hk0) ?_
    refine g_lcmp X dL_law_869 ?_
    refine g_if_eq (tgt := 875) X dL_law_870 (by decide) (fun c3 => ?_) (fun c3 => absurd (lg_self _) c3)
    refine g_goto (tgt := 1534) X dL_law_875 (by decide) ?_
    exact kk _ _ hI9 (by simp [gl_le, LSl])
set_option maxRecDepth 20000 in
theorem law_c13 (X : CX p s m args c cL_law RL 9 wsL_law γ A) (Y : CL l s A b Lx xs) (hj : inj γ) (ht : 4 * t + 4 ≤ Lx) (hK : t ≤ 999) (hI : INV σ t) (hk : k + 1 ≤ 601024) (hn : n + 6 ≤ 7293034)
    (kk : ∀ (ls : List (Option Value)) (σ2 : gS), INV σ2 (t + 1) → gl_le (LSl γ b t) ls → G p l e room_1 s m args below meth c γ A 9 (k + 1) (n + 6) Q 1534 ls [] σ2) : G p l e room_1 s m args below meth c γ A 9 k n Q 878 (LSl γ b t) [] σ := by
  unfold LSl
  obtain ⟨kc, σ1, hk3, hH, pM, hM, hpost⟩ := s_person l γ hI hK (xs (4 * t + 1)) (xs (4 * t + 2))
  refine g_aload_n X dL_law_878 rfl rfl ?_
  refine g_aload_n X dL_law_879 rfl rfl ?_
  refine g_iload X dL_law_880 rfl ?_
  refine g_iconstN X 1 dL_law_882 ?_
  refine g_iaddN X dL_law_883 ?_
  refine g_xld X Y (by omega) dL_law_884 ?_
  refine g_aload_n X dL_law_885 rfl rfl ?_
  refine g_iload X dL_law_886 rfl ?_
  refine g_iconstN X 2 dL_law_888 ?_
  refine g_iaddN X dL_law_889 ?_
  refine g_xld X Y (by omega) dL_law_890 ?_
  refine g_aload_n X dL_law_891 rfl rfl ?_
  refine g_callH (na := 4) X Y hj _ hH gL_law_L_person rfl ⟨rfl, rfl⟩ (by decide +kernel) rfl ⟨by decide, by decide⟩ rfl (Nat.le_of_ble_eq_true rfl) dL_law_892 ⟨by show _ ≤ 601024; omega, by show _ ≤ 7293034; omega⟩ (fun v9 σ9 h9 => ?_)
  obtain ⟨rfl, rfl⟩ := h9
  refine g_istore_s5 X dL_law_895 (by decide) rfl ?_
  refine g_aload_n X dL_law_897 rfl rfl ?_
  refine g_aload_n X dL_law_898 rfl rfl ?_
  refine g_iload X dL_law_899 rfl ?_
  refine g_iconstN X 1 dL_law_901 ?_
  refine g_iaddN X dL_law_902 ?_
  refine g_xld X Y (by omega) dL_law_903 ?_
  refine g_aload_n X dL_law_904 rfl rfl ?_
  refine g_iload X dL_law_905 rfl ?_
  refine g_iconstN X 2 dL_law_907 ?_
  refine g_iaddN X dL_law_908 ?_
  refine g_xld X Y (by omega) dL_law_909 ?_
  refine g_callV (na := 2) X hj [.int (xs (4 * t + 1)), .int (xs (4 * t + 2))] hM gW_23 rfl gL_law_X5_person rfl ⟨rfl, rfl⟩ (by decide +kernel) rfl ⟨by decide, by decide⟩ rfl (Nat.le_of_ble_eq_true rfl) dL_law_910 ⟨by show _ ≤ 601024; omega, by show _ ≤ 7293034; omega⟩ (fun v9 σ9 h9 => ?_)
  obtain ⟨b9, rfl, h6, h30, hI9⟩ := hpost v9 σ9 h9
  refine g_istore_s6 X dL_law_913 (by decide) rfl ?_
  refine g_aload_n X dL_law_915 rfl rfl ?_
  refine g_callVi (na := 0) X hj (k_X5_thrown l γ _) gW_23 rfl gL_law_X5_thrown rfl ⟨rfl, rfl⟩ (by decide +kernel) rfl ⟨by decide, by decide⟩ rfl (Nat.le_of_ble_eq_true rfl) dL_law_916 ⟨by show _ ≤ 601024; omega, by show _ ≤ 7293034; omega⟩ ?_
  refine g_top (y := nI kc) h6 ?_
  refine g_iload X dL_law_919 rfl ?_
  refine g_icmp_eq (tgt := 926) X dL_law_921 (by decide) (fun c1 => ?_) (fun c1 => absurd rfl c1)
  refine g_iload X dL_law_926 rfl ?_
  refine g_if_ne (tgt := 943) X dL_law_928 (by decide) (fun c2 => ?_) (fun c2 => ?_)
  · refine g_goto (tgt := 1534) X dL_law_943 (by decide) ?_
    exact kk _ _ hI9 (by simp [gl_le, LSl])
  · have hk0 := nI_z hk3 c2
    refine g_aload_n X dL_law_931 rfl rfl ?_
    refine g_iconstN X 0 dL_law_932 ?_
    refine g_ald_30 X rfl (by omega) dL_law_933 ?_
    refine g_iload X dL_law_934 rfl ?_
    refine g_i2l X dL_law_936 rfl ?_
    refine g_topL2 (h30 hk0) ?_
    refine g_lcmp X dL_law_937 ?_
    refine g_if_eq (tgt := 943) X dL_law_938 (by decide) (fun c3 => ?_) (fun c3 => absurd (lg_self _) c3)
    refine g_goto (tgt := 1534) X dL_law_943 (by decide) ?_
    exact kk _ _ hI9 (by simp [gl_le, LSl])
set_option maxRecDepth 20000 in
theorem law_c14 (X : CX p s m args c cL_law RL 9 wsL_law γ A) (Y : CL l s A b Lx xs) (hj : inj γ) (ht : 4 * t + 4 ≤ Lx) (hK : t ≤ 999) (hI : INV σ t) (hk : k + 1 ≤ 601024) (hn : n + 6 ≤ 7293034)
    (kk : ∀ (ls : List (Option Value)) (σ2 : gS), INV σ2 (t + 1) → gl_le (LSl γ b t) ls → G p l e room_1 s m args below meth c γ A 9 (k + 1) (n + 6) Q 1534 ls [] σ2) : G p l e room_1 s m args below meth c γ A 9 k n Q 946 (LSl γ b t) [] σ := by
  unfold LSl
  obtain ⟨kc, σ1, hk3, hH, pM, hM, hpost⟩ := s_bond l γ hI hK (xs (4 * t + 1)) (xs (4 * t + 2))
  refine g_aload_n X dL_law_946 rfl rfl ?_
  refine g_aload_n X dL_law_947 rfl rfl ?_
  refine g_iload X dL_law_948 rfl ?_
  refine g_iconstN X 1 dL_law_950 ?_
  refine g_iaddN X dL_law_951 ?_
  refine g_xld X Y (by omega) dL_law_952 ?_
  refine g_aload_n X dL_law_953 rfl rfl ?_
  refine g_iload X dL_law_954 rfl ?_
  refine g_iconstN X 2 dL_law_956 ?_
  refine g_iaddN X dL_law_957 ?_
  refine g_xld X Y (by omega) dL_law_958 ?_
  refine g_aload_n X dL_law_959 rfl rfl ?_
  refine g_callH (na := 4) X Y hj _ hH gL_law_L_bond rfl ⟨rfl, rfl⟩ (by decide +kernel) rfl ⟨by decide, by decide⟩ rfl (Nat.le_of_ble_eq_true rfl) dL_law_960 ⟨by show _ ≤ 601024; omega, by show _ ≤ 7293034; omega⟩ (fun v9 σ9 h9 => ?_)
  obtain ⟨rfl, rfl⟩ := h9
  refine g_istore_s5 X dL_law_963 (by decide) rfl ?_
  refine g_aload_n X dL_law_965 rfl rfl ?_
  refine g_aload_n X dL_law_966 rfl rfl ?_
  refine g_iload X dL_law_967 rfl ?_
  refine g_iconstN X 1 dL_law_969 ?_
  refine g_iaddN X dL_law_970 ?_
  refine g_xld X Y (by omega) dL_law_971 ?_
  refine g_aload_n X dL_law_972 rfl rfl ?_
  refine g_iload X dL_law_973 rfl ?_
  refine g_iconstN X 2 dL_law_975 ?_
  refine g_iaddN X dL_law_976 ?_
  refine g_xld X Y (by omega) dL_law_977 ?_
  refine g_callV (na := 2) X hj [.int (xs (4 * t + 1)), .int (xs (4 * t + 2))] hM gW_23 rfl gL_law_X5_bond rfl ⟨rfl, rfl⟩ (by decide +kernel) rfl ⟨by decide, by decide⟩ rfl (Nat.le_of_ble_eq_true rfl) dL_law_978 ⟨by show _ ≤ 601024; omega, by show _ ≤ 7293034; omega⟩ (fun v9 σ9 h9 => ?_)
  obtain ⟨b9, rfl, h6, h30, hI9⟩ := hpost v9 σ9 h9
  refine g_istore_s6 X dL_law_981 (by decide) rfl ?_
  refine g_aload_n X dL_law_983 rfl rfl ?_
  refine g_callVi (na := 0) X hj (k_X5_thrown l γ _) gW_23 rfl gL_law_X5_thrown rfl ⟨rfl, rfl⟩ (by decide +kernel) rfl ⟨by decide, by decide⟩ rfl (Nat.le_of_ble_eq_true rfl) dL_law_984 ⟨by show _ ≤ 601024; omega, by show _ ≤ 7293034; omega⟩ ?_
  refine g_top (y := nI kc) h6 ?_
  refine g_iload X dL_law_987 rfl ?_
  refine g_icmp_eq (tgt := 994) X dL_law_989 (by decide) (fun c1 => ?_) (fun c1 => absurd rfl c1)
  refine g_iload X dL_law_994 rfl ?_
  refine g_if_ne (tgt := 1011) X dL_law_996 (by decide) (fun c2 => ?_) (fun c2 => ?_)
  · refine g_goto (tgt := 1534) X dL_law_1011 (by decide) ?_
    exact kk _ _ hI9 (by simp [gl_le, LSl])
  · have hk0 := nI_z hk3 c2
    refine g_aload_n X dL_law_999 rfl rfl ?_
    refine g_iconstN X 0 dL_law_1000 ?_
    refine g_ald_30 X rfl (by omega) dL_law_1001 ?_
    refine g_iload X dL_law_1002 rfl ?_
    refine g_i2l X dL_law_1004 rfl ?_
    refine g_topL2 (h30 hk0) ?_
    refine g_lcmp X dL_law_1005 ?_
    refine g_if_eq (tgt := 1011) X dL_law_1006 (by decide) (fun c3 => ?_) (fun c3 => absurd (lg_self _) c3)
    refine g_goto (tgt := 1534) X dL_law_1011 (by decide) ?_
    exact kk _ _ hI9 (by simp [gl_le, LSl])
set_option maxRecDepth 20000 in
theorem law_c15 (X : CX p s m args c cL_law RL 9 wsL_law γ A) (Y : CL l s A b Lx xs) (hj : inj γ) (ht : 4 * t + 4 ≤ Lx) (hK : t ≤ 999) (hI : INV σ t) (hk : k + 1 ≤ 601024) (hn : n + 6 ≤ 7293034)
    (kk : ∀ (ls : List (Option Value)) (σ2 : gS), INV σ2 (t + 1) → gl_le (LSl γ b t) ls → G p l e room_1 s m args below meth c γ A 9 (k + 1) (n + 6) Q 1534 ls [] σ2) : G p l e room_1 s m args below meth c γ A 9 k n Q 1014 (LSl γ b t) [] σ := by
  unfold LSl
  obtain ⟨kc, σ1, hk3, hH, pM, hM, hpost⟩ := s_layer l γ hI hK (xs (4 * t + 1)) (xs (4 * t + 2)) (xs (4 * t + 3))
  refine g_aload_n X dL_law_1014 rfl rfl ?_
  refine g_aload_n X dL_law_1015 rfl rfl ?_
  refine g_iload X dL_law_1016 rfl ?_
  refine g_iconstN X 1 dL_law_1018 ?_
  refine g_iaddN X dL_law_1019 ?_
  refine g_xld X Y (by omega) dL_law_1020 ?_
  refine g_aload_n X dL_law_1021 rfl rfl ?_
  refine g_iload X dL_law_1022 rfl ?_
  refine g_iconstN X 2 dL_law_1024 ?_
  refine g_iaddN X dL_law_1025 ?_
  refine g_xld X Y (by omega) dL_law_1026 ?_
  refine g_aload_n X dL_law_1027 rfl rfl ?_
  refine g_iload X dL_law_1028 rfl ?_
  refine g_iconstN X 3 dL_law_1030 ?_
  refine g_iaddN X dL_law_1031 ?_
  refine g_xld X Y (by omega) dL_law_1032 ?_
  refine g_aload_n X dL_law_1033 rfl rfl ?_
  refine g_callH (na := 5) X Y hj _ hH gL_law_L_layer rfl ⟨rfl, rfl⟩ (by decide +kernel) rfl ⟨by decide, by decide⟩ rfl (Nat.le_of_ble_eq_true rfl) dL_law_1034 ⟨by show _ ≤ 601024; omega, by show _ ≤ 7293034; omega⟩ (fun v9 σ9 h9 => ?_)
  obtain ⟨rfl, rfl⟩ := h9
  refine g_istore_s5 X dL_law_1037 (by decide) rfl ?_
  refine g_aload_n X dL_law_1039 rfl rfl ?_
  refine g_aload_n X dL_law_1040 rfl rfl ?_
  refine g_iload X dL_law_1041 rfl ?_
  refine g_iconstN X 1 dL_law_1043 ?_
  refine g_iaddN X dL_law_1044 ?_
  refine g_xld X Y (by omega) dL_law_1045 ?_
  refine g_aload_n X dL_law_1046 rfl rfl ?_
  refine g_iload X dL_law_1047 rfl ?_
  refine g_iconstN X 2 dL_law_1049 ?_
  refine g_iaddN X dL_law_1050 ?_
  refine g_xld X Y (by omega) dL_law_1051 ?_
  refine g_aload_n X dL_law_1052 rfl rfl ?_
  refine g_iload X dL_law_1053 rfl ?_
  refine g_iconstN X 3 dL_law_1055 ?_
  refine g_iaddN X dL_law_1056 ?_
  refine g_xld X Y (by omega) dL_law_1057 ?_
  refine g_callV (na := 3) X hj [.int (xs (4 * t + 1)), .int (xs (4 * t + 2)), .int (xs (4 * t + 3))] hM gW_23 rfl gL_law_X5_layer rfl ⟨rfl, rfl⟩ (by decide +kernel) rfl ⟨by decide, by decide⟩ rfl (Nat.le_of_ble_eq_true rfl) dL_law_1058 ⟨by show _ ≤ 601024; omega, by show _ ≤ 7293034; omega⟩ (fun v9 σ9 h9 => ?_)
  obtain ⟨b9, rfl, h6, h30, hI9⟩ := hpost v9 σ9 h9
  refine g_istore_s6 X dL_law_1061 (by decide) rfl ?_
  refine g_aload_n X dL_law_1063 rfl rfl ?_
  refine g_callVi (na := 0) X hj (k_X5_thrown l γ _) gW_23 rfl gL_law_X5_thrown rfl ⟨rfl, rfl⟩ (by decide +kernel) rfl ⟨by decide, by decide⟩ rfl (Nat.le_of_ble_eq_true rfl) dL_law_1064 ⟨by show _ ≤ 601024; omega, by show _ ≤ 7293034; omega⟩ ?_
  refine g_top (y := nI kc) h6 ?_
  refine g_iload X dL_law_1067 rfl ?_
  refine g_icmp_eq (tgt := 1074) X dL_law_1069 (by decide) (fun c1 => ?_) (fun c1 => absurd rfl c1)
  refine g_iload X dL_law_1074 rfl ?_
  refine g_if_ne (tgt := 1091) X dL_law_1076 (by decide) (fun c2 => ?_) (fun c2 => ?_)
  · refine g_goto (tgt := 1534) X dL_law_1091 (by decide) ?_
    exact kk _ _ hI9 (by simp [gl_le, LSl])
  · have hk0 := nI_z hk3 c2
    refine g_aload_n X dL_law_1079 rfl rfl ?_
    refine g_iconstN X 0 dL_law_1080 ?_
    refine g_ald_30 X rfl (by omega) dL_law_1081 ?_
    refine g_iload X dL_law_1082 rfl ?_
    refine g_i2l X dL_law_1084 rfl ?_
    refine g_topL2 (h30 hk0) ?_
    refine g_lcmp X dL_law_1085 ?_
    refine g_if_eq (tgt := 1091) X dL_law_1086 (by decide) (fun c3 => ?_) (fun c3 => absurd (lg_self _) c3)
    refine g_goto (tgt := 1534) X dL_law_1091 (by decide) ?_
    exact kk _ _ hI9 (by simp [gl_le, LSl])
set_option maxRecDepth 20000 in
theorem law_c16 (X : CX p s m args c cL_law RL 9 wsL_law γ A) (Y : CL l s A b Lx xs) (hj : inj γ) (ht : 4 * t + 4 ≤ Lx) (hK : t ≤ 999) (hI : INV σ t) (hk : k + 1 ≤ 601024) (hn : n + 6 ≤ 7293034)
    (kk : ∀ (ls : List (Option Value)) (σ2 : gS), INV σ2 (t + 1) → gl_le (LSl γ b t) ls → G p l e room_1 s m args below meth c γ A 9 (k + 1) (n + 6) Q 1534 ls [] σ2) : G p l e room_1 s m args below meth c γ A 9 k n Q 1094 (LSl γ b t) [] σ := by
  unfold LSl
  obtain ⟨kc, σ1, hk3, hH, pM, hM, hpost⟩ := s_debt l γ hI hK (xs (4 * t + 1)) (xs (4 * t + 2))
  refine g_aload_n X dL_law_1094 rfl rfl ?_
  refine g_aload_n X dL_law_1095 rfl rfl ?_
  refine g_iload X dL_law_1096 rfl ?_
  refine g_iconstN X 1 dL_law_1098 ?_
  refine g_iaddN X dL_law_1099 ?_
  refine g_xld X Y (by omega) dL_law_1100 ?_
  refine g_aload_n X dL_law_1101 rfl rfl ?_
  refine g_iload X dL_law_1102 rfl ?_
  refine g_iconstN X 2 dL_law_1104 ?_
  refine g_iaddN X dL_law_1105 ?_
  refine g_xld X Y (by omega) dL_law_1106 ?_
  refine g_aload_n X dL_law_1107 rfl rfl ?_
  refine g_callH (na := 4) X Y hj _ hH gL_law_L_debt rfl ⟨rfl, rfl⟩ (by decide +kernel) rfl ⟨by decide, by decide⟩ rfl (Nat.le_of_ble_eq_true rfl) dL_law_1108 ⟨by show _ ≤ 601024; omega, by show _ ≤ 7293034; omega⟩ (fun v9 σ9 h9 => ?_)
  obtain ⟨rfl, rfl⟩ := h9
  refine g_istore_s5 X dL_law_1111 (by decide) rfl ?_
  refine g_aload_n X dL_law_1113 rfl rfl ?_
  refine g_aload_n X dL_law_1114 rfl rfl ?_
  refine g_iload X dL_law_1115 rfl ?_
  refine g_iconstN X 1 dL_law_1117 ?_
  refine g_iaddN X dL_law_1118 ?_
  refine g_xld X Y (by omega) dL_law_1119 ?_
  refine g_aload_n X dL_law_1120 rfl rfl ?_
  refine g_iload X dL_law_1121 rfl ?_
  refine g_iconstN X 2 dL_law_1123 ?_
  refine g_iaddN X dL_law_1124 ?_
  refine g_xld X Y (by omega) dL_law_1125 ?_
  refine g_callV (na := 2) X hj [.int (xs (4 * t + 1)), .int (xs (4 * t + 2))] hM gW_23 rfl gL_law_X5_debt rfl ⟨rfl, rfl⟩ (by decide +kernel) rfl ⟨by decide, by decide⟩ rfl (Nat.le_of_ble_eq_true rfl) dL_law_1126 ⟨by show _ ≤ 601024; omega, by show _ ≤ 7293034; omega⟩ (fun v9 σ9 h9 => ?_)
  obtain ⟨b9, rfl, h6, h30, hI9⟩ := hpost v9 σ9 h9
  refine g_istore_s6 X dL_law_1129 (by decide) rfl ?_
  refine g_aload_n X dL_law_1131 rfl rfl ?_
  refine g_callVi (na := 0) X hj (k_X5_thrown l γ _) gW_23 rfl gL_law_X5_thrown rfl ⟨rfl, rfl⟩ (by decide +kernel) rfl ⟨by decide, by decide⟩ rfl (Nat.le_of_ble_eq_true rfl) dL_law_1132 ⟨by show _ ≤ 601024; omega, by show _ ≤ 7293034; omega⟩ ?_
  refine g_top (y := nI kc) h6 ?_
  refine g_iload X dL_law_1135 rfl ?_
  refine g_icmp_eq (tgt := 1142) X dL_law_1137 (by decide) (fun c1 => ?_) (fun c1 => absurd rfl c1)
  refine g_iload X dL_law_1142 rfl ?_
  refine g_if_ne (tgt := 1159) X dL_law_1144 (by decide) (fun c2 => ?_) (fun c2 => ?_)
  · refine g_goto (tgt := 1534) X dL_law_1159 (by decide) ?_
    exact kk _ _ hI9 (by simp [gl_le, LSl])
  · have hk0 := nI_z hk3 c2
    refine g_aload_n X dL_law_1147 rfl rfl ?_
    refine g_iconstN X 0 dL_law_1148 ?_
    refine g_ald_30 X rfl (by omega) dL_law_1149 ?_
    refine g_iload X dL_law_1150 rfl ?_
    refine g_i2l X dL_law_1152 rfl ?_
    refine g_topL2 (h30 hk0) ?_
    refine g_lcmp X dL_law_1153 ?_
    refine g_if_eq (tgt := 1159) X dL_law_1154 (by decide) (fun c3 => ?_) (fun c3 => absurd (lg_self _) c3)
    refine g_goto (tgt := 1534) X dL_law_1159 (by decide) ?_
    exact kk _ _ hI9 (by simp [gl_le, LSl])
set_option maxRecDepth 20000 in
theorem law_c17 (X : CX p s m args c cL_law RL 9 wsL_law γ A) (Y : CL l s A b Lx xs) (hj : inj γ) (ht : 4 * t + 4 ≤ Lx) (hK : t ≤ 999) (hI : INV σ t) (hk : k + 1 ≤ 601024) (hn : n + 6 ≤ 7293034)
    (kk : ∀ (ls : List (Option Value)) (σ2 : gS), INV σ2 (t + 1) → gl_le (LSl γ b t) ls → G p l e room_1 s m args below meth c γ A 9 (k + 1) (n + 6) Q 1534 ls [] σ2) : G p l e room_1 s m args below meth c γ A 9 k n Q 1162 (LSl γ b t) [] σ := by
  unfold LSl
  obtain ⟨kc, σ1, hk3, hH, pM, hM, hpost⟩ := s_count l γ hI hK (xs (4 * t + 1))
  refine g_aload_n X dL_law_1162 rfl rfl ?_
  refine g_aload_n X dL_law_1163 rfl rfl ?_
  refine g_iload X dL_law_1164 rfl ?_
  refine g_iconstN X 1 dL_law_1166 ?_
  refine g_iaddN X dL_law_1167 ?_
  refine g_xld X Y (by omega) dL_law_1168 ?_
  refine g_aload_n X dL_law_1169 rfl rfl ?_
  refine g_callH (na := 3) X Y hj _ hH gL_law_L_count rfl ⟨rfl, rfl⟩ (by decide +kernel) rfl ⟨by decide, by decide⟩ rfl (Nat.le_of_ble_eq_true rfl) dL_law_1170 ⟨by show _ ≤ 601024; omega, by show _ ≤ 7293034; omega⟩ (fun v9 σ9 h9 => ?_)
  obtain ⟨rfl, rfl⟩ := h9
  refine g_istore_s5 X dL_law_1173 (by decide) rfl ?_
  refine g_aload_n X dL_law_1175 rfl rfl ?_
  refine g_aload_n X dL_law_1176 rfl rfl ?_
  refine g_iload X dL_law_1177 rfl ?_
  refine g_iconstN X 1 dL_law_1179 ?_
  refine g_iaddN X dL_law_1180 ?_
  refine g_xld X Y (by omega) dL_law_1181 ?_
  refine g_callV (na := 1) X hj [.int (xs (4 * t + 1))] hM gW_23 rfl gL_law_X5_count rfl ⟨rfl, rfl⟩ (by decide +kernel) rfl ⟨by decide, by decide⟩ rfl (Nat.le_of_ble_eq_true rfl) dL_law_1182 ⟨by show _ ≤ 601024; omega, by show _ ≤ 7293034; omega⟩ (fun v9 σ9 h9 => ?_)
  obtain ⟨b9, rfl, h6, h30, hI9⟩ := hpost v9 σ9 h9
  refine g_istore_s6 X dL_law_1185 (by decide) rfl ?_
  refine g_aload_n X dL_law_1187 rfl rfl ?_
  refine g_callVi (na := 0) X hj (k_X5_thrown l γ _) gW_23 rfl gL_law_X5_thrown rfl ⟨rfl, rfl⟩ (by decide +kernel) rfl ⟨by decide, by decide⟩ rfl (Nat.le_of_ble_eq_true rfl) dL_law_1188 ⟨by show _ ≤ 601024; omega, by show _ ≤ 7293034; omega⟩ ?_
  refine g_top (y := nI kc) h6 ?_
  refine g_iload X dL_law_1191 rfl ?_
  refine g_icmp_eq (tgt := 1198) X dL_law_1193 (by decide) (fun c1 => ?_) (fun c1 => absurd rfl c1)
  refine g_iload X dL_law_1198 rfl ?_
  refine g_if_ne (tgt := 1215) X dL_law_1200 (by decide) (fun c2 => ?_) (fun c2 => ?_)
  · refine g_goto (tgt := 1534) X dL_law_1215 (by decide) ?_
    exact kk _ _ hI9 (by simp [gl_le, LSl])
  · have hk0 := nI_z hk3 c2
    refine g_aload_n X dL_law_1203 rfl rfl ?_
    refine g_iconstN X 0 dL_law_1204 ?_
    refine g_ald_30 X rfl (by omega) dL_law_1205 ?_
    refine g_iload X dL_law_1206 rfl ?_
    refine g_i2l X dL_law_1208 rfl ?_
    refine g_topL2 (h30 hk0) ?_
    refine g_lcmp X dL_law_1209 ?_
    refine g_if_eq (tgt := 1215) X dL_law_1210 (by decide) (fun c3 => ?_) (fun c3 => absurd (lg_self _) c3)
    refine g_goto (tgt := 1534) X dL_law_1215 (by decide) ?_
    exact kk _ _ hI9 (by simp [gl_le, LSl])
set_option maxRecDepth 20000 in
theorem law_c18 (X : CX p s m args c cL_law RL 9 wsL_law γ A) (Y : CL l s A b Lx xs) (hj : inj γ) (ht : 4 * t + 4 ≤ Lx) (hK : t ≤ 999) (hI : INV σ t) (hk : k + 1 ≤ 601024) (hn : n + 6 ≤ 7293034)
    (kk : ∀ (ls : List (Option Value)) (σ2 : gS), INV σ2 (t + 1) → gl_le (LSl γ b t) ls → G p l e room_1 s m args below meth c γ A 9 (k + 1) (n + 6) Q 1534 ls [] σ2) : G p l e room_1 s m args below meth c γ A 9 k n Q 1218 (LSl γ b t) [] σ := by
  unfold LSl
  obtain ⟨kc, σ1, hk3, hH, pM, hM, hpost⟩ := s_setting l γ hI hK (xs (4 * t + 1))
  refine g_aload_n X dL_law_1218 rfl rfl ?_
  refine g_aload_n X dL_law_1219 rfl rfl ?_
  refine g_iload X dL_law_1220 rfl ?_
  refine g_iconstN X 1 dL_law_1222 ?_
  refine g_iaddN X dL_law_1223 ?_
  refine g_xld X Y (by omega) dL_law_1224 ?_
  refine g_aload_n X dL_law_1225 rfl rfl ?_
  refine g_callH (na := 3) X Y hj _ hH gL_law_L_setting rfl ⟨rfl, rfl⟩ (by decide +kernel) rfl ⟨by decide, by decide⟩ rfl (Nat.le_of_ble_eq_true rfl) dL_law_1226 ⟨by show _ ≤ 601024; omega, by show _ ≤ 7293034; omega⟩ (fun v9 σ9 h9 => ?_)
  obtain ⟨rfl, rfl⟩ := h9
  refine g_istore_s5 X dL_law_1229 (by decide) rfl ?_
  refine g_aload_n X dL_law_1231 rfl rfl ?_
  refine g_aload_n X dL_law_1232 rfl rfl ?_
  refine g_iload X dL_law_1233 rfl ?_
  refine g_iconstN X 1 dL_law_1235 ?_
  refine g_iaddN X dL_law_1236 ?_
  refine g_xld X Y (by omega) dL_law_1237 ?_
  refine g_callV (na := 1) X hj [.int (xs (4 * t + 1))] hM gW_23 rfl gL_law_X5_setting rfl ⟨rfl, rfl⟩ (by decide +kernel) rfl ⟨by decide, by decide⟩ rfl (Nat.le_of_ble_eq_true rfl) dL_law_1238 ⟨by show _ ≤ 601024; omega, by show _ ≤ 7293034; omega⟩ (fun v9 σ9 h9 => ?_)
  obtain ⟨b9, rfl, h6, h30, hI9⟩ := hpost v9 σ9 h9
  refine g_istore_s6 X dL_law_1241 (by decide) rfl ?_
  refine g_aload_n X dL_law_1243 rfl rfl ?_
  refine g_callVi (na := 0) X hj (k_X5_thrown l γ _) gW_23 rfl gL_law_X5_thrown rfl ⟨rfl, rfl⟩ (by decide +kernel) rfl ⟨by decide, by decide⟩ rfl (Nat.le_of_ble_eq_true rfl) dL_law_1244 ⟨by show _ ≤ 601024; omega, by show _ ≤ 7293034; omega⟩ ?_
  refine g_top (y := nI kc) h6 ?_
  refine g_iload X dL_law_1247 rfl ?_
  refine g_icmp_eq (tgt := 1254) X dL_law_1249 (by decide) (fun c1 => ?_) (fun c1 => absurd rfl c1)
  refine g_iload X dL_law_1254 rfl ?_
  refine g_if_ne (tgt := 1271) X dL_law_1256 (by decide) (fun c2 => ?_) (fun c2 => ?_)
  · refine g_goto (tgt := 1534) X dL_law_1271 (by decide) ?_
    exact kk _ _ hI9 (by simp [gl_le, LSl])
  · have hk0 := nI_z hk3 c2
    refine g_aload_n X dL_law_1259 rfl rfl ?_
    refine g_iconstN X 0 dL_law_1260 ?_
    refine g_ald_30 X rfl (by omega) dL_law_1261 ?_
    refine g_iload X dL_law_1262 rfl ?_
    refine g_i2l X dL_law_1264 rfl ?_
    refine g_topL2 (h30 hk0) ?_
    refine g_lcmp X dL_law_1265 ?_
    refine g_if_eq (tgt := 1271) X dL_law_1266 (by decide) (fun c3 => ?_) (fun c3 => absurd (lg_self _) c3)
    refine g_goto (tgt := 1534) X dL_law_1271 (by decide) ?_
    exact kk _ _ hI9 (by simp [gl_le, LSl])
set_option maxRecDepth 20000 in
theorem law_c19 (X : CX p s m args c cL_law RL 9 wsL_law γ A) (Y : CL l s A b Lx xs) (hj : inj γ) (ht : 4 * t + 4 ≤ Lx) (hK : t ≤ 999) (hI : INV σ t) (hk : k + 1 ≤ 601024) (hn : n + 6 ≤ 7293034)
    (kk : ∀ (ls : List (Option Value)) (σ2 : gS), INV σ2 (t + 1) → gl_le (LSl γ b t) ls → G p l e room_1 s m args below meth c γ A 9 (k + 1) (n + 6) Q 1534 ls [] σ2) : G p l e room_1 s m args below meth c γ A 9 k n Q 1274 (LSl γ b t) [] σ := by
  unfold LSl
  obtain ⟨kc, σ1, hk3, hH, pM, hM, hpost⟩ := s_ifCalled l γ hI hK (xs (4 * t + 1)) (xs (4 * t + 2)) (xs (4 * t + 3))
  refine g_aload_n X dL_law_1274 rfl rfl ?_
  refine g_aload_n X dL_law_1275 rfl rfl ?_
  refine g_iload X dL_law_1276 rfl ?_
  refine g_iconstN X 1 dL_law_1278 ?_
  refine g_iaddN X dL_law_1279 ?_
  refine g_xld X Y (by omega) dL_law_1280 ?_
  refine g_aload_n X dL_law_1281 rfl rfl ?_
  refine g_iload X dL_law_1282 rfl ?_
  refine g_iconstN X 2 dL_law_1284 ?_
  refine g_iaddN X dL_law_1285 ?_
  refine g_xld X Y (by omega) dL_law_1286 ?_
  refine g_aload_n X dL_law_1287 rfl rfl ?_
  refine g_iload X dL_law_1288 rfl ?_
  refine g_iconstN X 3 dL_law_1290 ?_
  refine g_iaddN X dL_law_1291 ?_
  refine g_xld X Y (by omega) dL_law_1292 ?_
  refine g_aload_n X dL_law_1293 rfl rfl ?_
  refine g_callH (na := 5) X Y hj _ hH gL_law_L_ifCalled rfl ⟨rfl, rfl⟩ (by decide +kernel) rfl ⟨by decide, by decide⟩ rfl (Nat.le_of_ble_eq_true rfl) dL_law_1294 ⟨by show _ ≤ 601024; omega, by show _ ≤ 7293034; omega⟩ (fun v9 σ9 h9 => ?_)
  obtain ⟨rfl, rfl⟩ := h9
  refine g_istore_s5 X dL_law_1297 (by decide) rfl ?_
  refine g_aload_n X dL_law_1299 rfl rfl ?_
  refine g_aload_n X dL_law_1300 rfl rfl ?_
  refine g_iload X dL_law_1301 rfl ?_
  refine g_iconstN X 1 dL_law_1303 ?_
  refine g_iaddN X dL_law_1304 ?_
  refine g_xld X Y (by omega) dL_law_1305 ?_
  refine g_aload_n X dL_law_1306 rfl rfl ?_
  refine g_iload X dL_law_1307 rfl ?_
  refine g_iconstN X 2 dL_law_1309 ?_
  refine g_iaddN X dL_law_1310 ?_
  refine g_xld X Y (by omega) dL_law_1311 ?_
  refine g_aload_n X dL_law_1312 rfl rfl ?_
  refine g_iload X dL_law_1313 rfl ?_
  refine g_iconstN X 3 dL_law_1315 ?_
  refine g_iaddN X dL_law_1316 ?_
  refine g_xld X Y (by omega) dL_law_1317 ?_
  refine g_callV (na := 3) X hj [.int (xs (4 * t + 1)), .int (xs (4 * t + 2)), .int (xs (4 * t + 3))] hM gW_23 rfl gL_law_X5_ifCalled rfl ⟨rfl, rfl⟩ (by decide +kernel) rfl ⟨by decide, by decide⟩ rfl (Nat.le_of_ble_eq_true rfl) dL_law_1318 ⟨by show _ ≤ 601024; omega, by show _ ≤ 7293034; omega⟩ (fun v9 σ9 h9 => ?_)
  obtain ⟨b9, rfl, h6, h30, hI9⟩ := hpost v9 σ9 h9
  refine g_istore_s6 X dL_law_1321 (by decide) rfl ?_
  refine g_aload_n X dL_law_1323 rfl rfl ?_
  refine g_callVi (na := 0) X hj (k_X5_thrown l γ _) gW_23 rfl gL_law_X5_thrown rfl ⟨rfl, rfl⟩ (by decide +kernel) rfl ⟨by decide, by decide⟩ rfl (Nat.le_of_ble_eq_true rfl) dL_law_1324 ⟨by show _ ≤ 601024; omega, by show _ ≤ 7293034; omega⟩ ?_
  refine g_top (y := nI kc) h6 ?_
  refine g_iload X dL_law_1327 rfl ?_
  refine g_icmp_eq (tgt := 1334) X dL_law_1329 (by decide) (fun c1 => ?_) (fun c1 => absurd rfl c1)
  refine g_iload X dL_law_1334 rfl ?_
  refine g_if_ne (tgt := 1351) X dL_law_1336 (by decide) (fun c2 => ?_) (fun c2 => ?_)
  · refine g_goto (tgt := 1534) X dL_law_1351 (by decide) ?_
    exact kk _ _ hI9 (by simp [gl_le, LSl])
  · have hk0 := nI_z hk3 c2
    refine g_aload_n X dL_law_1339 rfl rfl ?_
    refine g_iconstN X 0 dL_law_1340 ?_
    refine g_ald_30 X rfl (by omega) dL_law_1341 ?_
    refine g_iload X dL_law_1342 rfl ?_
    refine g_i2l X dL_law_1344 rfl ?_
    refine g_topL2 (h30 hk0) ?_
    refine g_lcmp X dL_law_1345 ?_
    refine g_if_eq (tgt := 1351) X dL_law_1346 (by decide) (fun c3 => ?_) (fun c3 => absurd (lg_self _) c3)
    refine g_goto (tgt := 1534) X dL_law_1351 (by decide) ?_
    exact kk _ _ hI9 (by simp [gl_le, LSl])
set_option maxRecDepth 20000 in
theorem law_c20 (X : CX p s m args c cL_law RL 9 wsL_law γ A) (Y : CL l s A b Lx xs) (hj : inj γ) (ht : 4 * t + 4 ≤ Lx) (hK : t ≤ 999) (hI : INV σ t) (hk : k + 1 ≤ 601024) (hn : n + 6 ≤ 7293034)
    (kk : ∀ (ls : List (Option Value)) (σ2 : gS), INV σ2 (t + 1) → gl_le (LSl γ b t) ls → G p l e room_1 s m args below meth c γ A 9 (k + 1) (n + 6) Q 1534 ls [] σ2) : G p l e room_1 s m args below meth c γ A 9 k n Q 1354 (LSl γ b t) [] σ := by
  unfold LSl
  obtain ⟨kc, σ1, hk3, hH, pM, hM, hpost⟩ := s_thin l γ hI hK (xs (4 * t + 1))
  refine g_aload_n X dL_law_1354 rfl rfl ?_
  refine g_aload_n X dL_law_1355 rfl rfl ?_
  refine g_iload X dL_law_1356 rfl ?_
  refine g_iconstN X 1 dL_law_1358 ?_
  refine g_iaddN X dL_law_1359 ?_
  refine g_xld X Y (by omega) dL_law_1360 ?_
  refine g_aload_n X dL_law_1361 rfl rfl ?_
  refine g_callH (na := 3) X Y hj _ hH gL_law_L_thin rfl ⟨rfl, rfl⟩ (by decide +kernel) rfl ⟨by decide, by decide⟩ rfl (Nat.le_of_ble_eq_true rfl) dL_law_1362 ⟨by show _ ≤ 601024; omega, by show _ ≤ 7293034; omega⟩ (fun v9 σ9 h9 => ?_)
  obtain ⟨rfl, rfl⟩ := h9
  refine g_istore_s5 X dL_law_1365 (by decide) rfl ?_
  refine g_aload_n X dL_law_1367 rfl rfl ?_
  refine g_aload_n X dL_law_1368 rfl rfl ?_
  refine g_iload X dL_law_1369 rfl ?_
  refine g_iconstN X 1 dL_law_1371 ?_
  refine g_iaddN X dL_law_1372 ?_
  refine g_xld X Y (by omega) dL_law_1373 ?_
  refine g_callV (na := 1) X hj [.int (xs (4 * t + 1))] hM gW_23 rfl gL_law_X5_thin rfl ⟨rfl, rfl⟩ (by decide +kernel) rfl ⟨by decide, by decide⟩ rfl (Nat.le_of_ble_eq_true rfl) dL_law_1374 ⟨by show _ ≤ 601024; omega, by show _ ≤ 7293034; omega⟩ (fun v9 σ9 h9 => ?_)
  obtain ⟨b9, rfl, h6, h30, hI9⟩ := hpost v9 σ9 h9
  refine g_istore_s6 X dL_law_1377 (by decide) rfl ?_
  refine g_aload_n X dL_law_1379 rfl rfl ?_
  refine g_callVi (na := 0) X hj (k_X5_thrown l γ _) gW_23 rfl gL_law_X5_thrown rfl ⟨rfl, rfl⟩ (by decide +kernel) rfl ⟨by decide, by decide⟩ rfl (Nat.le_of_ble_eq_true rfl) dL_law_1380 ⟨by show _ ≤ 601024; omega, by show _ ≤ 7293034; omega⟩ ?_
  refine g_top (y := nI kc) h6 ?_
  refine g_iload X dL_law_1383 rfl ?_
  refine g_icmp_eq (tgt := 1390) X dL_law_1385 (by decide) (fun c1 => ?_) (fun c1 => absurd rfl c1)
  refine g_iload X dL_law_1390 rfl ?_
  refine g_if_ne (tgt := 1407) X dL_law_1392 (by decide) (fun c2 => ?_) (fun c2 => ?_)
  · refine g_goto (tgt := 1534) X dL_law_1407 (by decide) ?_
    exact kk _ _ hI9 (by simp [gl_le, LSl])
  · have hk0 := nI_z hk3 c2
    refine g_aload_n X dL_law_1395 rfl rfl ?_
    refine g_iconstN X 0 dL_law_1396 ?_
    refine g_ald_30 X rfl (by omega) dL_law_1397 ?_
    refine g_iload X dL_law_1398 rfl ?_
    refine g_i2l X dL_law_1400 rfl ?_
    refine g_topL2 (h30 hk0) ?_
    refine g_lcmp X dL_law_1401 ?_
    refine g_if_eq (tgt := 1407) X dL_law_1402 (by decide) (fun c3 => ?_) (fun c3 => absurd (lg_self _) c3)
    refine g_goto (tgt := 1534) X dL_law_1407 (by decide) ?_
    exact kk _ _ hI9 (by simp [gl_le, LSl])
set_option maxRecDepth 20000 in
theorem law_c21 (X : CX p s m args c cL_law RL 9 wsL_law γ A) (Y : CL l s A b Lx xs) (hj : inj γ) (ht : 4 * t + 4 ≤ Lx) (hK : t ≤ 999) (hI : INV σ t) (hk : k + 1 ≤ 601024) (hn : n + 6 ≤ 7293034)
    (kk : ∀ (ls : List (Option Value)) (σ2 : gS), INV σ2 (t + 1) → gl_le (LSl γ b t) ls → G p l e room_1 s m args below meth c γ A 9 (k + 1) (n + 6) Q 1534 ls [] σ2) : G p l e room_1 s m args below meth c γ A 9 k n Q 1410 (LSl γ b t) [] σ := by
  unfold LSl
  obtain ⟨val, ⟨r9, rfl⟩, pC, hC, hc⟩ := s_worst l γ hI hK
  refine g_aload_n X dL_law_1410 rfl rfl ?_
  refine g_callV (na := 0) X hj [] hC gW_0 rfl gL_law_X4_worst rfl ⟨rfl, rfl⟩ (by decide +kernel) rfl ⟨by decide, by decide⟩ rfl (Nat.le_of_ble_eq_true rfl) dL_law_1411 ⟨by show _ ≤ 601024; omega, by show _ ≤ 7293034; omega⟩ (fun v9 σ9 h9 => ?_)
  obtain ⟨rfl, pM, hM, hm⟩ := hc v9 σ9 h9
  refine g_aload_n X dL_law_1414 rfl rfl ?_
  refine g_callV (na := 0) X hj [] hM gW_23 rfl gL_law_X5_worst rfl ⟨rfl, rfl⟩ (by decide +kernel) rfl ⟨by decide, by decide⟩ rfl (Nat.le_of_ble_eq_true rfl) dL_law_1415 ⟨by show _ ≤ 601024; omega, by show _ ≤ 7293034; omega⟩ (fun v8 σ8 h8 => ?_)
  obtain ⟨rfl, hI8⟩ := hm v8 σ8 h8
  exact g_icmp_eq (tgt := 1534) X dL_law_1418 (by decide) (fun _ => (g_widen (by omega) (by omega) (kk _ _ hI8 (by simp [gl_le, LSl])))) (fun c1 => absurd rfl c1)
set_option maxRecDepth 20000 in
theorem law_c22 (X : CX p s m args c cL_law RL 9 wsL_law γ A) (Y : CL l s A b Lx xs) (hj : inj γ) (ht : 4 * t + 4 ≤ Lx) (hK : t ≤ 999) (hI : INV σ t) (hk : k + 1 ≤ 601024) (hn : n + 6 ≤ 7293034)
    (kk : ∀ (ls : List (Option Value)) (σ2 : gS), INV σ2 (t + 1) → gl_le (LSl γ b t) ls → G p l e room_1 s m args below meth c γ A 9 (k + 1) (n + 6) Q 1534 ls [] σ2) : G p l e room_1 s m args below meth c γ A 9 k n Q 1423 (LSl γ b t) [] σ := by
  unfold LSl
  obtain ⟨kc, σ1, hk3, hH, pM, hM, hpost⟩ := s_spare l γ hI hK (xs (4 * t + 1))
  refine g_aload_n X dL_law_1423 rfl rfl ?_
  refine g_aload_n X dL_law_1424 rfl rfl ?_
  refine g_iload X dL_law_1425 rfl ?_
  refine g_iconstN X 1 dL_law_1427 ?_
  refine g_iaddN X dL_law_1428 ?_
  refine g_xld X Y (by omega) dL_law_1429 ?_
  refine g_aload_n X dL_law_1430 rfl rfl ?_
  refine g_callH (na := 3) X Y hj _ hH gL_law_L_spare rfl ⟨rfl, rfl⟩ (by decide +kernel) rfl ⟨by decide, by decide⟩ rfl (Nat.le_of_ble_eq_true rfl) dL_law_1431 ⟨by show _ ≤ 601024; omega, by show _ ≤ 7293034; omega⟩ (fun v9 σ9 h9 => ?_)
  obtain ⟨rfl, rfl⟩ := h9
  refine g_istore_s5 X dL_law_1434 (by decide) rfl ?_
  refine g_aload_n X dL_law_1436 rfl rfl ?_
  refine g_aload_n X dL_law_1437 rfl rfl ?_
  refine g_iload X dL_law_1438 rfl ?_
  refine g_iconstN X 1 dL_law_1440 ?_
  refine g_iaddN X dL_law_1441 ?_
  refine g_xld X Y (by omega) dL_law_1442 ?_
  refine g_callV (na := 1) X hj [.int (xs (4 * t + 1))] hM gW_23 rfl gL_law_X5_spare rfl ⟨rfl, rfl⟩ (by decide +kernel) rfl ⟨by decide, by decide⟩ rfl (Nat.le_of_ble_eq_true rfl) dL_law_1443 ⟨by show _ ≤ 601024; omega, by show _ ≤ 7293034; omega⟩ (fun v9 σ9 h9 => ?_)
  obtain ⟨b9, rfl, h6, h30, hI9⟩ := hpost v9 σ9 h9
  refine g_istore_s6 X dL_law_1446 (by decide) rfl ?_
  refine g_aload_n X dL_law_1448 rfl rfl ?_
  refine g_callVi (na := 0) X hj (k_X5_thrown l γ _) gW_23 rfl gL_law_X5_thrown rfl ⟨rfl, rfl⟩ (by decide +kernel) rfl ⟨by decide, by decide⟩ rfl (Nat.le_of_ble_eq_true rfl) dL_law_1449 ⟨by show _ ≤ 601024; omega, by show _ ≤ 7293034; omega⟩ ?_
  refine g_top (y := nI kc) h6 ?_
  refine g_iload X dL_law_1452 rfl ?_
  refine g_icmp_eq (tgt := 1459) X dL_law_1454 (by decide) (fun c1 => ?_) (fun c1 => absurd rfl c1)
  refine g_iload X dL_law_1459 rfl ?_
  refine g_if_ne (tgt := 1476) X dL_law_1461 (by decide) (fun c2 => ?_) (fun c2 => ?_)
  · refine g_goto (tgt := 1534) X dL_law_1476 (by decide) ?_
    exact kk _ _ hI9 (by simp [gl_le, LSl])
  · have hk0 := nI_z hk3 c2
    refine g_aload_n X dL_law_1464 rfl rfl ?_
    refine g_iconstN X 0 dL_law_1465 ?_
    refine g_ald_30 X rfl (by omega) dL_law_1466 ?_
    refine g_iload X dL_law_1467 rfl ?_
    refine g_i2l X dL_law_1469 rfl ?_
    refine g_topL2 (h30 hk0) ?_
    refine g_lcmp X dL_law_1470 ?_
    refine g_if_eq (tgt := 1476) X dL_law_1471 (by decide) (fun c3 => ?_) (fun c3 => absurd (lg_self _) c3)
    refine g_goto (tgt := 1534) X dL_law_1476 (by decide) ?_
    exact kk _ _ hI9 (by simp [gl_le, LSl])
set_option maxRecDepth 20000 in
theorem law_c23 (X : CX p s m args c cL_law RL 9 wsL_law γ A) (Y : CL l s A b Lx xs) (hj : inj γ) (ht : 4 * t + 4 ≤ Lx) (hK : t ≤ 999) (hI : INV σ t) (hk : k + 1 ≤ 601024) (hn : n + 6 ≤ 7293034)
    (kk : ∀ (ls : List (Option Value)) (σ2 : gS), INV σ2 (t + 1) → gl_le (LSl γ b t) ls → G p l e room_1 s m args below meth c γ A 9 (k + 1) (n + 6) Q 1534 ls [] σ2) : G p l e room_1 s m args below meth c γ A 9 k n Q 1479 (LSl γ b t) [] σ := by
  unfold LSl
  obtain ⟨val, ⟨r9, rfl, hself⟩, pC, hC, hc⟩ := s_paidShare l γ hI
  refine g_aload_n X dL_law_1479 rfl rfl ?_
  refine g_callV (na := 0) X hj [] hC gW_0 rfl gL_law_X4_paidShare rfl ⟨rfl, rfl⟩ (by decide +kernel) rfl ⟨by decide, by decide⟩ rfl (Nat.le_of_ble_eq_true rfl) dL_law_1480 ⟨by show _ ≤ 601024; omega, by show _ ≤ 7293034; omega⟩ (fun v9 σ9 h9 => ?_)
  obtain ⟨rfl, pM, hM, hm⟩ := hc v9 σ9 h9
  refine g_dstore_s5 X dL_law_1483 (by decide) rfl ?_
  refine g_aload_n X dL_law_1485 rfl rfl ?_
  refine g_callV (na := 0) X hj [] hM gW_23 rfl gL_law_X5_paidShare rfl ⟨rfl, rfl⟩ (by decide +kernel) rfl ⟨by decide, by decide⟩ rfl (Nat.le_of_ble_eq_true rfl) dL_law_1486 ⟨by show _ ≤ 601024; omega, by show _ ≤ 7293034; omega⟩ (fun v8 σ8 h8 => ?_)
  obtain ⟨rfl, hI8⟩ := hm v8 σ8 h8
  refine g_dstore_s7 X dL_law_1489 (by decide) rfl ?_
  refine g_dload X dL_law_1491 rfl ?_
  refine g_dload X dL_law_1493 rfl ?_
  refine g_dcmp X dL_law_1495 ?_
  refine g_if_eq (tgt := 1517) X dL_law_1496 (by decide) (fun _ => ?_) (fun c1 => absurd hself c1)
  refine g_goto (tgt := 1534) X dL_law_1517 (by decide) ?_
  exact (g_widen (by omega) (by omega) (kk _ _ hI8 (by simp [gl_le, LSl])))
set_option maxRecDepth 20000 in
theorem law_c24 (X : CX p s m args c cL_law RL 9 wsL_law γ A) (Y : CL l s A b Lx xs) (hj : inj γ) (ht : 4 * t + 4 ≤ Lx) (hK : t ≤ 999) (hI : INV σ t) (hk : k + 1 ≤ 601024) (hn : n + 6 ≤ 7293034)
    (kk : ∀ (ls : List (Option Value)) (σ2 : gS), INV σ2 (t + 1) → gl_le (LSl γ b t) ls → G p l e room_1 s m args below meth c γ A 9 (k + 1) (n + 6) Q 1534 ls [] σ2) : G p l e room_1 s m args below meth c γ A 9 k n Q 1520 (LSl γ b t) [] σ := by
  unfold LSl
  obtain ⟨val, ⟨r9, rfl⟩, pC, hC, hc⟩ := s_digest l γ hI hK
  refine g_aload_n X dL_law_1520 rfl rfl ?_
  refine g_callV (na := 0) X hj [] hC gW_0 rfl gL_law_X4_digest rfl ⟨rfl, rfl⟩ (by decide +kernel) rfl ⟨by decide, by decide⟩ rfl (Nat.le_of_ble_eq_true rfl) dL_law_1521 ⟨by show _ ≤ 601024; omega, by show _ ≤ 7293034; omega⟩ (fun v9 σ9 h9 => ?_)
  obtain ⟨rfl, pM, hM, hm⟩ := hc v9 σ9 h9
  refine g_aload_n X dL_law_1524 rfl rfl ?_
  refine g_callV (na := 0) X hj [] hM gW_23 rfl gL_law_X5_digest rfl ⟨rfl, rfl⟩ (by decide +kernel) rfl ⟨by decide, by decide⟩ rfl (Nat.le_of_ble_eq_true rfl) dL_law_1525 ⟨by show _ ≤ 601024; omega, by show _ ≤ 7293034; omega⟩ (fun v8 σ8 h8 => ?_)
  obtain ⟨rfl, hI8⟩ := hm v8 σ8 h8
  refine g_lcmp X dL_law_1528 ?_
  exact g_if_eq (tgt := 1534) X dL_law_1529 (by decide) (fun _ => (g_widen (by omega) (by omega) (kk _ _ hI8 (by simp [gl_le, LSl])))) (fun c1 => absurd (lg_self _) c1)
set_option maxRecDepth 20000 in
theorem law_loop (X : CX p s m args c cL_law RL 9 wsL_law γ A) (Y : CL l s A b Lx xs) (hj : inj γ) (hend : ∀ (k n : Nat) (ls : List (Option Value)) (σ : gS), k ≤ 601024 → n ≤ 7293034 → G p l e room_1 s m args below meth c γ A 9 k n Q 1540 ls [] σ) :
    ∀ (r t k n : Nat) (σ : gS), Lx < 4 * (t + r) → t ≤ 512 → k ≤ 1000 + t → n ≤ 20000 + 6 * t → INV σ t → G p l e room_1 s m args below meth c γ A 9 k n Q 23 (LSl γ b t) [] σ := by
  have hL := Y.2.2.2.2.2.2.2
  intro r
  induction r with
  | zero =>
    intro t k n σ hr ht hk hn hI
    unfold LSl
    refine g_iload X dL_law_23 rfl ?_
    refine g_aload_n X dL_law_25 rfl rfl ?_
    refine g_xlen X Y dL_law_26 ?_
    refine g_iconstN X 4 dL_law_27 ?_
    refine g_isub X dL_law_28 ?_
    refine g_icmp_gt (tgt := 1540) X dL_law_29 (by decide) (fun _ => hend k n _ σ (by omega) (by omega)) (fun c1 => absurd (xgt hL (by omega) (by omega)) c1)
  | succ r ih =>
    intro t k n σ hr ht hk hn hI
    by_cases hlt : Lx < 4 * t + 4
    · unfold LSl
      refine g_iload X dL_law_23 rfl ?_
      refine g_aload_n X dL_law_25 rfl rfl ?_
      refine g_xlen X Y dL_law_26 ?_
      refine g_iconstN X 4 dL_law_27 ?_
      refine g_isub X dL_law_28 ?_
      exact g_icmp_gt (tgt := 1540) X dL_law_29 (by decide) (fun _ => hend k n _ σ (by omega) (by omega)) (fun c1 => absurd (xgt hL (by omega) hlt) c1)
    · have ht4 : 4 * t + 4 ≤ Lx := by omega
      have kk : ∀ (ls : List (Option Value)) (σ2 : gS), INV σ2 (t + 1) → gl_le (LSl γ b t) ls → G p l e room_1 s m args below meth c γ A 9 (k + 1) (n + 6) Q 1534 ls [] σ2 := by
        intro ls σ2 hI2 hls
        refine g_le hls ?_
        unfold LSl
        refine g_iincN4 (d := 4) X dL_law_1534 (by decide) rfl ?_
        refine g_goto (tgt := 23) X dL_law_1537 (by decide) ?_
        have := ih (t + 1) (k + 1) (n + 6) σ2 (by omega) (by omega) (by omega) (by omega) hI2
        unfold LSl at this
        rw [show 4 * (t + 1) = 4 * t + 4 by omega] at this
        exact this
      have kd : G p l e room_1 s m args below meth c γ A 9 k n Q 1534 (LSl γ b t) [] σ := g_widen (by omega) (by omega) (kk _ σ (hI.mono (Nat.le_succ t)) (by simp [gl_le, LSl]))
      have hk1 : k + 1 ≤ 601024 := by omega
      have hn1 : n + 6 ≤ 7293034 := by omega
      have hK : t ≤ 999 := by omega
      have hback : ∀ pc, G p l e room_1 s m args below meth c γ A 9 k n Q pc (LSl γ b t) [] σ → G p l e room_1 s m args below meth c γ A 9 k n Q pc [some (.ref b), some (.ref (ad γ 0)), some (.ref (ad γ 23)), some (.ref (ad γ 30)), some (.int (nI (4 * t))), none, none, none, none] [] σ := fun _ h => h
      show G p l e room_1 s m args below meth c γ A 9 k n Q 23 [some (.ref b), some (.ref (ad γ 0)), some (.ref (ad γ 23)), some (.ref (ad γ 30)), some (.int (nI (4 * t))), none, none, none, none] [] σ
      refine g_iload X dL_law_23 rfl ?_
      refine g_aload_n X dL_law_25 rfl rfl ?_
      refine g_xlen X Y dL_law_26 ?_
      refine g_iconstN X 4 dL_law_27 ?_
      refine g_isub X dL_law_28 ?_
      refine g_icmp_gt (tgt := 1540) X dL_law_29 (by decide) (fun _ => hend k n _ σ (by omega) (by omega)) (fun _ => ?_)
      refine g_aload_n X dL_law_32 rfl rfl ?_
      refine g_iload X dL_law_33 rfl ?_
      refine g_xld X Y (by omega) dL_law_35 ?_
      refine g_bipush (v := nI 31) X dL_law_36 (by decide) ?_
      refine g_iand X dL_law_38 ?_
      obtain ⟨v, hv, ev⟩ := and31 (xs (4 * t))
      refine g_top (y := nI v) ev ?_
      by_cases h25 : 25 ≤ v
      · refine g_tableOut (tgt := 1534) X dL_law_39 (Or.inr (by rw [nI_toInt (by omega)]; omega)) (by decide) ?_
        exact kd
      · have hcase : v = 0 ∨ v = 1 ∨ v = 2 ∨ v = 3 ∨ v = 4 ∨ v = 5 ∨ v = 6 ∨ v = 7 ∨ v = 8 ∨ v = 9 ∨ v = 10 ∨ v = 11 ∨ v = 12 ∨ v = 13 ∨ v = 14 ∨ v = 15 ∨ v = 16 ∨ v = 17 ∨ v = 18 ∨ v = 19 ∨ v = 20 ∨ v = 21 ∨ v = 22 ∨ v = 23 ∨ v = 24 := by omega
        rcases hcase with rfl | rfl | rfl | rfl | rfl | rfl | rfl | rfl | rfl | rfl | rfl | rfl | rfl | rfl | rfl | rfl | rfl | rfl | rfl | rfl | rfl | rfl | rfl | rfl | rfl
        · exact g_tableIn (tgt := 152) X dL_law_39 (by decide) (by decide) rfl (by decide) (law_c0 X Y hj ht4 hK hI hk1 hn1 kk)
        · exact g_tableIn (tgt := 220) X dL_law_39 (by decide) (by decide) rfl (by decide) (law_c1 X Y hj ht4 hK hI hk1 hn1 kk)
        · exact g_tableIn (tgt := 288) X dL_law_39 (by decide) (by decide) rfl (by decide) (law_c2 X Y hj ht4 hK hI hk1 hn1 kk)
        · exact g_tableIn (tgt := 368) X dL_law_39 (by decide) (by decide) rfl (by decide) (law_c3 X Y hj ht4 hK hI hk1 hn1 kk)
        · exact g_tableIn (tgt := 448) X dL_law_39 (by decide) (by decide) rfl (by decide) (law_c4 X Y hj ht4 hK hI hk1 hn1 kk)
        · exact g_tableIn (tgt := 516) X dL_law_39 (by decide) (by decide) rfl (by decide) (law_c5 X Y hj ht4 hK hI hk1 hn1 kk)
        · exact g_tableIn (tgt := 596) X dL_law_39 (by decide) (by decide) rfl (by decide) (law_c6 X Y hj ht4 hK hI hk1 hn1 kk)
        · exact g_tableIn (tgt := 652) X dL_law_39 (by decide) (by decide) rfl (by decide) (law_c7 X Y hj ht4 hK hI hk1 hn1 kk)
        · exact g_tableIn (tgt := 708) X dL_law_39 (by decide) (by decide) rfl (by decide) (law_c8 X Y hj ht4 hK hI hk1 hn1 kk)
        · exact g_tableIn (tgt := 764) X dL_law_39 (by decide) (by decide) rfl (by decide) (law_c9 X Y hj ht4 hK hI hk1 hn1 kk)
        · exact g_tableIn (tgt := 777) X dL_law_39 (by decide) (by decide) rfl (by decide) (law_c10 X Y hj ht4 hK hI hk1 hn1 kk)
        · exact g_tableIn (tgt := 790) X dL_law_39 (by decide) (by decide) rfl (by decide) (law_c11 X Y hj ht4 hK hI hk1 hn1 kk)
        · exact g_tableIn (tgt := 834) X dL_law_39 (by decide) (by decide) rfl (by decide) (law_c12 X Y hj ht4 hK hI hk1 hn1 kk)
        · exact g_tableIn (tgt := 878) X dL_law_39 (by decide) (by decide) rfl (by decide) (law_c13 X Y hj ht4 hK hI hk1 hn1 kk)
        · exact g_tableIn (tgt := 946) X dL_law_39 (by decide) (by decide) rfl (by decide) (law_c14 X Y hj ht4 hK hI hk1 hn1 kk)
        · exact g_tableIn (tgt := 1014) X dL_law_39 (by decide) (by decide) rfl (by decide) (law_c15 X Y hj ht4 hK hI hk1 hn1 kk)
        · exact g_tableIn (tgt := 1094) X dL_law_39 (by decide) (by decide) rfl (by decide) (law_c16 X Y hj ht4 hK hI hk1 hn1 kk)
        · exact g_tableIn (tgt := 1162) X dL_law_39 (by decide) (by decide) rfl (by decide) (law_c17 X Y hj ht4 hK hI hk1 hn1 kk)
        · exact g_tableIn (tgt := 1218) X dL_law_39 (by decide) (by decide) rfl (by decide) (law_c18 X Y hj ht4 hK hI hk1 hn1 kk)
        · exact g_tableIn (tgt := 1274) X dL_law_39 (by decide) (by decide) rfl (by decide) (law_c19 X Y hj ht4 hK hI hk1 hn1 kk)
        · exact g_tableIn (tgt := 1354) X dL_law_39 (by decide) (by decide) rfl (by decide) (law_c20 X Y hj ht4 hK hI hk1 hn1 kk)
        · exact g_tableIn (tgt := 1410) X dL_law_39 (by decide) (by decide) rfl (by decide) (law_c21 X Y hj ht4 hK hI hk1 hn1 kk)
        · exact g_tableIn (tgt := 1423) X dL_law_39 (by decide) (by decide) rfl (by decide) (law_c22 X Y hj ht4 hK hI hk1 hn1 kk)
        · exact g_tableIn (tgt := 1479) X dL_law_39 (by decide) (by decide) rfl (by decide) (law_c23 X Y hj ht4 hK hI hk1 hn1 kk)
        · exact g_tableIn (tgt := 1520) X dL_law_39 (by decide) (by decide) rfl (by decide) (law_c24 X Y hj ht4 hK hI hk1 hn1 kk)
end LAWC
