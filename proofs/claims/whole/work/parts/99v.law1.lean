section Law1
variable {g : ZG} {l : Launch} {Kd : ZK} {Rd : ZR} {n s0 c : Nat} {J P : Nat → Nat → Int}
abbrev ML_law : ZM := (yL_law, cL_law, 4, (some FieldType.boolean), 7, 181)
theorem lg_same (x : Int64) : lg_cmp x x = 0 := by
  unfold lg_cmp; rw [if_neg (fun h => absurd (Int64.lt_iff_toInt_lt.mp h) (Int.lt_irrefl _)), if_pos rfl]
theorem z_lsame {M : ZM} {pc : Nat} {ls : List (Option Value)} {st : List Value} {h : ZH} {Q : Option Value → ZH → Prop} {x y : Int64} {off : Int} {tgt : Nat} (hxy : x = y) (hd : decode M.2.1 pc = .ok (.lcmp, 1)) (hd2 : decode M.2.1 (pc + 1) = .ok (.ifCond .eq off, 3)) (ht : ((pc + 1 : Nat) : Int) + off = (tgt : Int)) (k : Z g l M tgt ls st h Q) : Z g l M pc ls (.long y :: .long x :: st) h Q := by
  subst hxy
  exact z_lcmp hd (z_if_eq hd2 ht (fun _ => k) (fun q => absurd (lg_same x) q))
set_option maxHeartbeats 4000000 in
set_option maxRecDepth 100000 in
theorem law_0 {f : Nat → Int} {LN : Nat} {i : Int} {Q0 : Option Value → ZH → Prop} (hS : g.2.2.2.2 0 = (LN, fun j => iZ (f j))) (hLN : LN ≤ 3072) (hF : ∀ j, rI (f j)) (hO : ORUL g) (hi : 0 ≤ i ∧ i + 6 ≤ (LN : Int)) (hW : WD J c Kd J Rd n s0) (hR : okR J) (L1771 : ∀ (K2 : ZK) (J2 P2 : Nat → Nat → Int) (R2 : ZR) (n2 s2 : Nat), WD J2 (c + 1) K2 J2 R2 n2 s2 → okR J2 → Z g l ML_law 1771 [some (.ref 0), some (.ref 4), some (.ref 42), some (.int (iZ i))] [] (KF K2, zi J2, zj P2, RF R2, n2, s2) Q0) : Z g l ML_law 220 [some (.ref 0), some (.ref 4), some (.ref 42), some (.int (iZ i))] [] (KF Kd, zi J, zj P, RF Rd, n, s0) Q0 := by
  refine z_aload_n dL_law_220 rfl rfl ?_
  refine z_aload_n dL_law_221 rfl rfl ?_
  refine z_iload_n dL_law_222 rfl rfl ?_
  refine c_iconst dL_law_223 ?_
  refine c_iadd dL_law_224 ?_
  refine c_iald_old dL_law_225 (by decide) hS (by omega) (by omega) ?_
  refine z_aload_n dL_law_226 rfl rfl ?_
  refine z_iload_n dL_law_227 rfl rfl ?_
  refine c_iconst dL_law_228 ?_
  refine c_iadd dL_law_229 ?_
  refine c_iald_old dL_law_230 (by decide) hS (by omega) (by omega) ?_
  refine z_callv (N := MX8_single) (ci := 8) (nas := 2) (as := [_, _]) dL_law_231 w_216 w_213 w_214 w_215 w_1 (by decide +kernel) rfl rfl rfl (by decide) (Nat.le_of_ble_eq_true rfl) (by decide) (by decide) (ZC.mono (cMX8_single (hF _) (hF _) hW) ?_)
  rintro _ _ ⟨rfl, K1, J1, P1, R1, n1, s1, rfl, hW1, hc1, hp1⟩
  have hK1 := OKA_cs hW.2.2.2.1 hc1
  have hR1 := okR_cs hR hc1
  refine z_aload_n dL_law_234 rfl rfl ?_
  refine z_aload_n dL_law_235 rfl rfl ?_
  refine z_iload_n dL_law_236 rfl rfl ?_
  refine c_iconst dL_law_237 ?_
  refine c_iadd dL_law_238 ?_
  refine c_iald_old dL_law_239 (by decide) hS (by omega) (by omega) ?_
  refine z_aload_n dL_law_240 rfl rfl ?_
  refine z_iload_n dL_law_241 rfl rfl ?_
  refine c_iconst dL_law_242 ?_
  refine c_iadd dL_law_243 ?_
  refine c_iald_old dL_law_244 (by decide) hS (by omega) (by omega) ?_
  refine z_callv (N := MX9_single) (ci := 9) (nas := 2) (as := [_, _]) dL_law_245 w_882 w_879 w_880 w_881 w_8 (by decide +kernel) rfl rfl rfl (by decide) (Nat.le_of_ble_eq_true rfl) (by decide) (by decide) (ZC.mono (cMX9_single (hF _) (hF _)) ?_)
  rintro _ _ ⟨J2, P2, rfl, rfl, hq2, hpp2⟩
  have e2 : aSingle J1 (f (i + 1).toNat) (f (i + 2).toNat) = mp J1 (aSingle J (f (i + 1).toNat) (f (i + 2).toNat)) := (congrArg (fun z => aSingle z (f (i + 1).toNat) (f (i + 2).toNat)) (mrg_self hc1)).symm.trans g_Single
  rw [e2] at hq2 ⊢
  refine z_icmp_eq (tgt := 1771) dL_law_248 (by decide) (fun _ => ?_) (fun h => absurd rfl h)
  exact L1771 _ _ _ _ _ _ (WD_ref hW1 hq2) (okR_ref hR1 hq2)
set_option maxHeartbeats 4000000 in
set_option maxRecDepth 100000 in
theorem law_1 {f : Nat → Int} {LN : Nat} {i : Int} {Q0 : Option Value → ZH → Prop} (hS : g.2.2.2.2 0 = (LN, fun j => iZ (f j))) (hLN : LN ≤ 3072) (hF : ∀ j, rI (f j)) (hO : ORUL g) (hi : 0 ≤ i ∧ i + 6 ≤ (LN : Int)) (hW : WD J c Kd J Rd n s0) (hR : okR J) (L1771 : ∀ (K2 : ZK) (J2 P2 : Nat → Nat → Int) (R2 : ZR) (n2 s2 : Nat), WD J2 (c + 1) K2 J2 R2 n2 s2 → okR J2 → Z g l ML_law 1771 [some (.ref 0), some (.ref 4), some (.ref 42), some (.int (iZ i))] [] (KF K2, zi J2, zj P2, RF R2, n2, s2) Q0) : Z g l ML_law 253 [some (.ref 0), some (.ref 4), some (.ref 42), some (.int (iZ i))] [] (KF Kd, zi J, zj P, RF Rd, n, s0) Q0 := by
  refine z_aload_n dL_law_253 rfl rfl ?_
  refine z_aload_n dL_law_254 rfl rfl ?_
  refine z_iload_n dL_law_255 rfl rfl ?_
  refine c_iconst dL_law_256 ?_
  refine c_iadd dL_law_257 ?_
  refine c_iald_old dL_law_258 (by decide) hS (by omega) (by omega) ?_
  refine z_aload_n dL_law_259 rfl rfl ?_
  refine z_iload_n dL_law_260 rfl rfl ?_
  refine c_iconst dL_law_261 ?_
  refine c_iadd dL_law_262 ?_
  refine c_iald_old dL_law_263 (by decide) hS (by omega) (by omega) ?_
  refine z_aload_n dL_law_264 rfl rfl ?_
  refine z_iload_n dL_law_265 rfl rfl ?_
  refine c_iconst dL_law_266 ?_
  refine c_iadd dL_law_267 ?_
  refine c_iald_old dL_law_268 (by decide) hS (by omega) (by omega) ?_
  refine z_aload_n dL_law_269 rfl rfl ?_
  refine z_iload_n dL_law_270 rfl rfl ?_
  refine c_iconst dL_law_271 ?_
  refine c_iadd dL_law_272 ?_
  refine c_iald_old dL_law_273 (by decide) hS (by omega) (by omega) ?_
  refine z_callv (N := MX8_form) (ci := 8) (nas := 4) (as := [_, _, _, _]) dL_law_274 w_310 w_307 w_308 w_309 w_1 (by decide +kernel) rfl rfl rfl (by decide) (Nat.le_of_ble_eq_true rfl) (by decide) (by decide) (ZC.mono (cMX8_form (hF _) (hF _) (hF _) (hF _) hW) ?_)
  rintro _ _ ⟨rfl, K1, J1, P1, R1, n1, s1, rfl, hW1, hc1, hp1⟩
  have hK1 := OKA_cs hW.2.2.2.1 hc1
  have hR1 := okR_cs hR hc1
  refine z_aload_n dL_law_277 rfl rfl ?_
  refine z_aload_n dL_law_278 rfl rfl ?_
  refine z_iload_n dL_law_279 rfl rfl ?_
  refine c_iconst dL_law_280 ?_
  refine c_iadd dL_law_281 ?_
  refine c_iald_old dL_law_282 (by decide) hS (by omega) (by omega) ?_
  refine z_aload_n dL_law_283 rfl rfl ?_
  refine z_iload_n dL_law_284 rfl rfl ?_
  refine c_iconst dL_law_285 ?_
  refine c_iadd dL_law_286 ?_
  refine c_iald_old dL_law_287 (by decide) hS (by omega) (by omega) ?_
  refine z_aload_n dL_law_288 rfl rfl ?_
  refine z_iload_n dL_law_289 rfl rfl ?_
  refine c_iconst dL_law_290 ?_
  refine c_iadd dL_law_291 ?_
  refine c_iald_old dL_law_292 (by decide) hS (by omega) (by omega) ?_
  refine z_aload_n dL_law_293 rfl rfl ?_
  refine z_iload_n dL_law_294 rfl rfl ?_
  refine c_iconst dL_law_295 ?_
  refine c_iadd dL_law_296 ?_
  refine c_iald_old dL_law_297 (by decide) hS (by omega) (by omega) ?_
  refine z_callv (N := MX9_form) (ci := 9) (nas := 4) (as := [_, _, _, _]) dL_law_298 w_901 w_898 w_899 w_900 w_8 (by decide +kernel) rfl rfl rfl (by decide) (Nat.le_of_ble_eq_true rfl) (by decide) (by decide) (ZC.mono (cMX9_form (hF _) (hF _) (hF _) (hF _) hK1.2.2) ?_)
  rintro _ _ ⟨J2, P2, rfl, rfl, hq2, hpp2⟩
  have e2 : aForm J1 (f (i + 1).toNat) (f (i + 2).toNat) (f (i + 3).toNat) (f (i + 4).toNat) = mp J1 (aForm J (f (i + 1).toNat) (f (i + 2).toNat) (f (i + 3).toNat) (f (i + 4).toNat)) := (congrArg (fun z => aForm z (f (i + 1).toNat) (f (i + 2).toNat) (f (i + 3).toNat) (f (i + 4).toNat)) (mrg_self hc1)).symm.trans g_Form
  rw [e2] at hq2 ⊢
  refine z_icmp_eq (tgt := 1771) dL_law_301 (by decide) (fun _ => ?_) (fun h => absurd rfl h)
  exact L1771 _ _ _ _ _ _ (WD_ref hW1 hq2) (okR_ref hR1 hq2)
set_option maxHeartbeats 4000000 in
set_option maxRecDepth 100000 in
theorem law_2 {f : Nat → Int} {LN : Nat} {i : Int} {Q0 : Option Value → ZH → Prop} (hS : g.2.2.2.2 0 = (LN, fun j => iZ (f j))) (hLN : LN ≤ 3072) (hF : ∀ j, rI (f j)) (hO : ORUL g) (hi : 0 ≤ i ∧ i + 6 ≤ (LN : Int)) (hW : WD J c Kd J Rd n s0) (hR : okR J) (L1771 : ∀ (K2 : ZK) (J2 P2 : Nat → Nat → Int) (R2 : ZR) (n2 s2 : Nat), WD J2 (c + 1) K2 J2 R2 n2 s2 → okR J2 → Z g l ML_law 1771 [some (.ref 0), some (.ref 4), some (.ref 42), some (.int (iZ i))] [] (KF K2, zi J2, zj P2, RF R2, n2, s2) Q0) : Z g l ML_law 306 [some (.ref 0), some (.ref 4), some (.ref 42), some (.int (iZ i))] [] (KF Kd, zi J, zj P, RF Rd, n, s0) Q0 := by
  refine z_aload_n dL_law_306 rfl rfl ?_
  refine z_aload_n dL_law_307 rfl rfl ?_
  refine z_iload_n dL_law_308 rfl rfl ?_
  refine c_iconst dL_law_309 ?_
  refine c_iadd dL_law_310 ?_
  refine c_iald_old dL_law_311 (by decide) hS (by omega) (by omega) ?_
  refine z_aload_n dL_law_312 rfl rfl ?_
  refine z_iload_n dL_law_313 rfl rfl ?_
  refine c_iconst dL_law_314 ?_
  refine c_iadd dL_law_315 ?_
  refine c_iald_old dL_law_316 (by decide) hS (by omega) (by omega) ?_
  refine z_aload_n dL_law_317 rfl rfl ?_
  refine z_iload_n dL_law_318 rfl rfl ?_
  refine c_iconst dL_law_319 ?_
  refine c_iadd dL_law_320 ?_
  refine c_iald_old dL_law_321 (by decide) hS (by omega) (by omega) ?_
  refine z_callv (N := MX8_spread) (ci := 8) (nas := 3) (as := [_, _, _]) dL_law_322 w_329 w_326 w_327 w_328 w_1 (by decide +kernel) rfl rfl rfl (by decide) (Nat.le_of_ble_eq_true rfl) (by decide) (by decide) (ZC.mono (cMX8_spread (hF _) (hF _) (hF _) hW) ?_)
  rintro _ _ ⟨rfl, K1, J1, P1, R1, n1, s1, rfl, hW1, hc1, hp1⟩
  have hK1 := OKA_cs hW.2.2.2.1 hc1
  have hR1 := okR_cs hR hc1
  refine z_aload_n dL_law_325 rfl rfl ?_
  refine z_aload_n dL_law_326 rfl rfl ?_
  refine z_iload_n dL_law_327 rfl rfl ?_
  refine c_iconst dL_law_328 ?_
  refine c_iadd dL_law_329 ?_
  refine c_iald_old dL_law_330 (by decide) hS (by omega) (by omega) ?_
  refine z_aload_n dL_law_331 rfl rfl ?_
  refine z_iload_n dL_law_332 rfl rfl ?_
  refine c_iconst dL_law_333 ?_
  refine c_iadd dL_law_334 ?_
  refine c_iald_old dL_law_335 (by decide) hS (by omega) (by omega) ?_
  refine z_aload_n dL_law_336 rfl rfl ?_
  refine z_iload_n dL_law_337 rfl rfl ?_
  refine c_iconst dL_law_338 ?_
  refine c_iadd dL_law_339 ?_
  refine c_iald_old dL_law_340 (by decide) hS (by omega) (by omega) ?_
  refine z_callv (N := MX9_spread) (ci := 9) (nas := 3) (as := [_, _, _]) dL_law_341 w_944 w_941 w_942 w_943 w_8 (by decide +kernel) rfl rfl rfl (by decide) (Nat.le_of_ble_eq_true rfl) (by decide) (by decide) (ZC.mono (cMX9_spread (hF _) (hF _) (hF _) hK1.1 hK1.2.2) ?_)
  rintro _ _ ⟨J2, P2, rfl, rfl, hq2, hpp2⟩
  have e2 : aSpread J1 (f (i + 1).toNat) (f (i + 2).toNat) (f (i + 3).toNat) = mp J1 (aSpread J (f (i + 1).toNat) (f (i + 2).toNat) (f (i + 3).toNat)) := (congrArg (fun z => aSpread z (f (i + 1).toNat) (f (i + 2).toNat) (f (i + 3).toNat)) (mrg_self hc1)).symm.trans g_Spread
  rw [e2] at hq2 ⊢
  refine z_icmp_eq (tgt := 1771) dL_law_344 (by decide) (fun _ => ?_) (fun h => absurd rfl h)
  exact L1771 _ _ _ _ _ _ (WD_ref hW1 hq2) (okR_ref hR1 hq2)
set_option maxHeartbeats 4000000 in
set_option maxRecDepth 100000 in
theorem law_3 {f : Nat → Int} {LN : Nat} {i : Int} {Q0 : Option Value → ZH → Prop} (hS : g.2.2.2.2 0 = (LN, fun j => iZ (f j))) (hLN : LN ≤ 3072) (hF : ∀ j, rI (f j)) (hO : ORUL g) (hi : 0 ≤ i ∧ i + 6 ≤ (LN : Int)) (hW : WD J c Kd J Rd n s0) (hR : okR J) (L1771 : ∀ (K2 : ZK) (J2 P2 : Nat → Nat → Int) (R2 : ZR) (n2 s2 : Nat), WD J2 (c + 1) K2 J2 R2 n2 s2 → okR J2 → Z g l ML_law 1771 [some (.ref 0), some (.ref 4), some (.ref 42), some (.int (iZ i))] [] (KF K2, zi J2, zj P2, RF R2, n2, s2) Q0) : Z g l ML_law 349 [some (.ref 0), some (.ref 4), some (.ref 42), some (.int (iZ i))] [] (KF Kd, zi J, zj P, RF Rd, n, s0) Q0 := by
  refine z_aload_n dL_law_349 rfl rfl ?_
  refine z_aload_n dL_law_350 rfl rfl ?_
  refine z_iload_n dL_law_351 rfl rfl ?_
  refine c_iconst dL_law_352 ?_
  refine c_iadd dL_law_353 ?_
  refine c_iald_old dL_law_354 (by decide) hS (by omega) (by omega) ?_
  refine z_callv (N := MX8_clear) (ci := 8) (nas := 1) (as := [_]) dL_law_355 w_341 w_338 w_339 w_340 w_1 (by decide +kernel) rfl rfl rfl (by decide) (Nat.le_of_ble_eq_true rfl) (by decide) (by decide) (ZC.mono (cMX8_clear (hF _) hW) ?_)
  rintro _ _ ⟨rfl, K1, J1, P1, R1, n1, s1, rfl, hW1, hc1, hp1⟩
  have hK1 := OKA_cs hW.2.2.2.1 hc1
  have hR1 := okR_cs hR hc1
  refine z_aload_n dL_law_358 rfl rfl ?_
  refine z_aload_n dL_law_359 rfl rfl ?_
  refine z_iload_n dL_law_360 rfl rfl ?_
  refine c_iconst dL_law_361 ?_
  refine c_iadd dL_law_362 ?_
  refine c_iald_old dL_law_363 (by decide) hS (by omega) (by omega) ?_
  refine z_callv (N := MX9_clear) (ci := 9) (nas := 1) (as := [_]) dL_law_364 w_952 w_949 w_950 w_951 w_8 (by decide +kernel) rfl rfl rfl (by decide) (Nat.le_of_ble_eq_true rfl) (by decide) (by decide) (ZC.mono (cMX9_clear (hF _) hK1.1) ?_)
  rintro _ _ ⟨J2, P2, rfl, rfl, hq2, hpp2⟩
  have e2 : aClear J1 (f (i + 1).toNat) = mp J1 (aClear J (f (i + 1).toNat)) := (congrArg (fun z => aClear z (f (i + 1).toNat)) (mrg_self hc1)).symm.trans g_Clear
  rw [e2] at hq2 ⊢
  refine z_icmp_eq (tgt := 1771) dL_law_367 (by decide) (fun _ => ?_) (fun h => absurd rfl h)
  exact L1771 _ _ _ _ _ _ (WD_ref hW1 hq2) (okR_ref hR1 hq2)
set_option maxHeartbeats 4000000 in
set_option maxRecDepth 100000 in
theorem law_4 {f : Nat → Int} {LN : Nat} {i : Int} {Q0 : Option Value → ZH → Prop} (hS : g.2.2.2.2 0 = (LN, fun j => iZ (f j))) (hLN : LN ≤ 3072) (hF : ∀ j, rI (f j)) (hO : ORUL g) (hi : 0 ≤ i ∧ i + 6 ≤ (LN : Int)) (hW : WD J c Kd J Rd n s0) (hR : okR J) (L1771 : ∀ (K2 : ZK) (J2 P2 : Nat → Nat → Int) (R2 : ZR) (n2 s2 : Nat), WD J2 (c + 1) K2 J2 R2 n2 s2 → okR J2 → Z g l ML_law 1771 [some (.ref 0), some (.ref 4), some (.ref 42), some (.int (iZ i))] [] (KF K2, zi J2, zj P2, RF R2, n2, s2) Q0) : Z g l ML_law 372 [some (.ref 0), some (.ref 4), some (.ref 42), some (.int (iZ i))] [] (KF Kd, zi J, zj P, RF Rd, n, s0) Q0 := by
  refine z_aload_n dL_law_372 rfl rfl ?_
  refine z_aload_n dL_law_373 rfl rfl ?_
  refine z_iload_n dL_law_374 rfl rfl ?_
  refine c_iconst dL_law_375 ?_
  refine c_iadd dL_law_376 ?_
  refine c_iald_old dL_law_377 (by decide) hS (by omega) (by omega) ?_
  refine z_aload_n dL_law_378 rfl rfl ?_
  refine z_iload_n dL_law_379 rfl rfl ?_
  refine c_iconst dL_law_380 ?_
  refine c_iadd dL_law_381 ?_
  refine c_iald_old dL_law_382 (by decide) hS (by omega) (by omega) ?_
  refine z_aload_n dL_law_383 rfl rfl ?_
  refine z_iload_n dL_law_384 rfl rfl ?_
  refine c_iconst dL_law_385 ?_
  refine c_iadd dL_law_386 ?_
  refine c_iald_old dL_law_387 (by decide) hS (by omega) (by omega) ?_
  refine z_aload_n dL_law_388 rfl rfl ?_
  refine z_iload_n dL_law_389 rfl rfl ?_
  refine c_iconst dL_law_390 ?_
  refine c_iadd dL_law_391 ?_
  refine c_iald_old dL_law_392 (by decide) hS (by omega) (by omega) ?_
  refine z_callv (N := MX8_entry) (ci := 8) (nas := 4) (as := [_, _, _, _]) dL_law_393 w_345 w_342 w_343 w_344 w_1 (by decide +kernel) rfl rfl rfl (by decide) (Nat.le_of_ble_eq_true rfl) (by decide) (by decide) (ZC.mono (cMX8_entry (hF _) (hF _) (hF _) (hF _) hW) ?_)
  rintro _ _ ⟨rfl, K1, J1, P1, R1, n1, s1, rfl, hW1, hc1, hp1⟩
  have hK1 := OKA_cs hW.2.2.2.1 hc1
  have hR1 := okR_cs hR hc1
  refine z_aload_n dL_law_396 rfl rfl ?_
  refine z_aload_n dL_law_397 rfl rfl ?_
  refine z_iload_n dL_law_398 rfl rfl ?_
  refine c_iconst dL_law_399 ?_
  refine c_iadd dL_law_400 ?_
  refine c_iald_old dL_law_401 (by decide) hS (by omega) (by omega) ?_
  refine z_aload_n dL_law_402 rfl rfl ?_
  refine z_iload_n dL_law_403 rfl rfl ?_
  refine c_iconst dL_law_404 ?_
  refine c_iadd dL_law_405 ?_
  refine c_iald_old dL_law_406 (by decide) hS (by omega) (by omega) ?_
  refine z_aload_n dL_law_407 rfl rfl ?_
  refine z_iload_n dL_law_408 rfl rfl ?_
  refine c_iconst dL_law_409 ?_
  refine c_iadd dL_law_410 ?_
  refine c_iald_old dL_law_411 (by decide) hS (by omega) (by omega) ?_
  refine z_aload_n dL_law_412 rfl rfl ?_
  refine z_iload_n dL_law_413 rfl rfl ?_
  refine c_iconst dL_law_414 ?_
  refine c_iadd dL_law_415 ?_
  refine c_iald_old dL_law_416 (by decide) hS (by omega) (by omega) ?_
  refine z_callv (N := MX9_entry) (ci := 9) (nas := 4) (as := [_, _, _, _]) dL_law_417 w_956 w_953 w_954 w_955 w_8 (by decide +kernel) rfl rfl rfl (by decide) (Nat.le_of_ble_eq_true rfl) (by decide) (by decide) (ZC.mono (cMX9_entry (hF _) (hF _) (hF _) (hF _) hK1.1) ?_)
  rintro _ _ ⟨J2, P2, rfl, rfl, hq2, hpp2⟩
  have e2 : aEntry J1 (f (i + 1).toNat) (f (i + 2).toNat) (f (i + 3).toNat) (f (i + 4).toNat) = mp J1 (aEntry J (f (i + 1).toNat) (f (i + 2).toNat) (f (i + 3).toNat) (f (i + 4).toNat)) := (congrArg (fun z => aEntry z (f (i + 1).toNat) (f (i + 2).toNat) (f (i + 3).toNat) (f (i + 4).toNat)) (mrg_self hc1)).symm.trans g_Entry
  rw [e2] at hq2 ⊢
  refine z_icmp_eq (tgt := 1771) dL_law_420 (by decide) (fun _ => ?_) (fun h => absurd rfl h)
  exact L1771 _ _ _ _ _ _ (WD_ref hW1 hq2) (okR_ref hR1 hq2)
set_option maxHeartbeats 4000000 in
set_option maxRecDepth 100000 in
theorem law_5 {f : Nat → Int} {LN : Nat} {i : Int} {Q0 : Option Value → ZH → Prop} (hS : g.2.2.2.2 0 = (LN, fun j => iZ (f j))) (hLN : LN ≤ 3072) (hF : ∀ j, rI (f j)) (hO : ORUL g) (hi : 0 ≤ i ∧ i + 6 ≤ (LN : Int)) (hW : WD J c Kd J Rd n s0) (hR : okR J) (L1771 : ∀ (K2 : ZK) (J2 P2 : Nat → Nat → Int) (R2 : ZR) (n2 s2 : Nat), WD J2 (c + 1) K2 J2 R2 n2 s2 → okR J2 → Z g l ML_law 1771 [some (.ref 0), some (.ref 4), some (.ref 42), some (.int (iZ i))] [] (KF K2, zi J2, zj P2, RF R2, n2, s2) Q0) : Z g l ML_law 425 [some (.ref 0), some (.ref 4), some (.ref 42), some (.int (iZ i))] [] (KF Kd, zi J, zj P, RF Rd, n, s0) Q0 := by
  refine z_aload_n dL_law_425 rfl rfl ?_
  refine z_aload_n dL_law_426 rfl rfl ?_
  refine z_iload_n dL_law_427 rfl rfl ?_
  refine c_iconst dL_law_428 ?_
  refine c_iadd dL_law_429 ?_
  refine c_iald_old dL_law_430 (by decide) hS (by omega) (by omega) ?_
  refine z_aload_n dL_law_431 rfl rfl ?_
  refine z_iload_n dL_law_432 rfl rfl ?_
  refine c_iconst dL_law_433 ?_
  refine c_iadd dL_law_434 ?_
  refine c_iald_old dL_law_435 (by decide) hS (by omega) (by omega) ?_
  refine z_aload_n dL_law_436 rfl rfl ?_
  refine z_iload_n dL_law_437 rfl rfl ?_
  refine c_iconst dL_law_438 ?_
  refine c_iadd dL_law_439 ?_
  refine c_iald_old dL_law_440 (by decide) hS (by omega) (by omega) ?_
  refine z_callv (N := MX8_at) (ci := 8) (nas := 3) (as := [_, _, _]) dL_law_441 w_359 w_356 w_357 w_358 w_1 (by decide +kernel) rfl rfl rfl (by decide) (Nat.le_of_ble_eq_true rfl) (by decide) (by decide) (ZC.mono (cMX8_at (hF _) (hF _) (hF _) hW) ?_)
  rintro _ _ ⟨rfl, K1, J1, P1, R1, n1, s1, rfl, hW1, hc1, hp1⟩
  have hK1 := OKA_cs hW.2.2.2.1 hc1
  have hR1 := okR_cs hR hc1
  refine z_aload_n dL_law_444 rfl rfl ?_
  refine z_aload_n dL_law_445 rfl rfl ?_
  refine z_iload_n dL_law_446 rfl rfl ?_
  refine c_iconst dL_law_447 ?_
  refine c_iadd dL_law_448 ?_
  refine c_iald_old dL_law_449 (by decide) hS (by omega) (by omega) ?_
  refine z_aload_n dL_law_450 rfl rfl ?_
  refine z_iload_n dL_law_451 rfl rfl ?_
  refine c_iconst dL_law_452 ?_
  refine c_iadd dL_law_453 ?_
  refine c_iald_old dL_law_454 (by decide) hS (by omega) (by omega) ?_
  refine z_aload_n dL_law_455 rfl rfl ?_
  refine z_iload_n dL_law_456 rfl rfl ?_
  refine c_iconst dL_law_457 ?_
  refine c_iadd dL_law_458 ?_
  refine c_iald_old dL_law_459 (by decide) hS (by omega) (by omega) ?_
  refine z_callv (N := MX9_at) (ci := 9) (nas := 3) (as := [_, _, _]) dL_law_460 w_964 w_961 w_962 w_963 w_8 (by decide +kernel) rfl rfl rfl (by decide) (Nat.le_of_ble_eq_true rfl) (by decide) (by decide) (ZC.mono (cMX9_at (hF _) (hF _) (hF _) hK1.1) ?_)
  rintro _ _ ⟨J2, P2, rfl, rfl, hq2, hpp2⟩
  have e2 : aAt J1 (f (i + 1).toNat) (f (i + 2).toNat) (f (i + 3).toNat) = (aAt J (f (i + 1).toNat) (f (i + 2).toNat) (f (i + 3).toNat)) := (congrArg (fun z => aAt z (f (i + 1).toNat) (f (i + 2).toNat) (f (i + 3).toNat)) (mrg_self hc1)).symm.trans g_At
  rw [e2]
  refine z_icmp_eq (tgt := 1771) dL_law_463 (by decide) (fun _ => ?_) (fun h => absurd rfl h)
  exact L1771 _ _ _ _ _ _ (WD_ref hW1 (by rw [mrg_self hc1]; exact hq2)) (okR_ref (B := J) hR1 (by rw [mrg_self hc1]; exact hq2))
set_option maxHeartbeats 4000000 in
set_option maxRecDepth 100000 in
theorem law_6 {f : Nat → Int} {LN : Nat} {i : Int} {Q0 : Option Value → ZH → Prop} (hS : g.2.2.2.2 0 = (LN, fun j => iZ (f j))) (hLN : LN ≤ 3072) (hF : ∀ j, rI (f j)) (hO : ORUL g) (hi : 0 ≤ i ∧ i + 6 ≤ (LN : Int)) (hW : WD J c Kd J Rd n s0) (hR : okR J) (L1771 : ∀ (K2 : ZK) (J2 P2 : Nat → Nat → Int) (R2 : ZR) (n2 s2 : Nat), WD J2 (c + 1) K2 J2 R2 n2 s2 → okR J2 → Z g l ML_law 1771 [some (.ref 0), some (.ref 4), some (.ref 42), some (.int (iZ i))] [] (KF K2, zi J2, zj P2, RF R2, n2, s2) Q0) : Z g l ML_law 468 [some (.ref 0), some (.ref 4), some (.ref 42), some (.int (iZ i))] [] (KF Kd, zi J, zj P, RF Rd, n, s0) Q0 := by
  refine z_aload_n dL_law_468 rfl rfl ?_
  refine z_aload_n dL_law_469 rfl rfl ?_
  refine z_iload_n dL_law_470 rfl rfl ?_
  refine c_iconst dL_law_471 ?_
  refine c_iadd dL_law_472 ?_
  refine c_iald_old dL_law_473 (by decide) hS (by omega) (by omega) ?_
  refine z_aload_n dL_law_474 rfl rfl ?_
  refine z_iload_n dL_law_475 rfl rfl ?_
  refine c_iconst dL_law_476 ?_
  refine c_iadd dL_law_477 ?_
  refine c_iald_old dL_law_478 (by decide) hS (by omega) (by omega) ?_
  refine z_callv (N := MX8_minor) (ci := 8) (nas := 2) (as := [_, _]) dL_law_479 w_364 w_361 w_362 w_363 w_1 (by decide +kernel) rfl rfl rfl (by decide) (Nat.le_of_ble_eq_true rfl) (by decide) (by decide) (ZC.mono (cMX8_minor (hF _) (hF _) hW) ?_)
  rintro _ _ ⟨rfl, K1, J1, P1, R1, n1, s1, rfl, hW1, hc1, hp1⟩
  have hK1 := OKA_cs hW.2.2.2.1 hc1
  have hR1 := okR_cs hR hc1
  refine z_aload_n dL_law_482 rfl rfl ?_
  refine z_aload_n dL_law_483 rfl rfl ?_
  refine z_iload_n dL_law_484 rfl rfl ?_
  refine c_iconst dL_law_485 ?_
  refine c_iadd dL_law_486 ?_
  refine c_iald_old dL_law_487 (by decide) hS (by omega) (by omega) ?_
  refine z_aload_n dL_law_488 rfl rfl ?_
  refine z_iload_n dL_law_489 rfl rfl ?_
  refine c_iconst dL_law_490 ?_
  refine c_iadd dL_law_491 ?_
  refine c_iald_old dL_law_492 (by decide) hS (by omega) (by omega) ?_
  refine z_callv (N := MX9_minor) (ci := 9) (nas := 2) (as := [_, _]) dL_law_493 w_969 w_966 w_967 w_968 w_8 (by decide +kernel) rfl rfl rfl (by decide) (Nat.le_of_ble_eq_true rfl) (by decide) (by decide) (ZC.mono (cMX9_minor (hF _) (hF _) hK1.1) ?_)
  rintro _ _ ⟨J2, P2, rfl, rfl, hq2, hpp2⟩
  have e2 : aMinor J1 (f (i + 1).toNat) (f (i + 2).toNat) = (aMinor J (f (i + 1).toNat) (f (i + 2).toNat)) := (congrArg (fun z => aMinor z (f (i + 1).toNat) (f (i + 2).toNat)) (mrg_self hc1)).symm.trans g_Minor
  rw [e2]
  refine z_icmp_eq (tgt := 1771) dL_law_496 (by decide) (fun _ => ?_) (fun h => absurd rfl h)
  exact L1771 _ _ _ _ _ _ (WD_ref hW1 (by rw [mrg_self hc1]; exact hq2)) (okR_ref (B := J) hR1 (by rw [mrg_self hc1]; exact hq2))
set_option maxHeartbeats 4000000 in
set_option maxRecDepth 100000 in
theorem law_7 {f : Nat → Int} {LN : Nat} {i : Int} {Q0 : Option Value → ZH → Prop} (hS : g.2.2.2.2 0 = (LN, fun j => iZ (f j))) (hLN : LN ≤ 3072) (hF : ∀ j, rI (f j)) (hO : ORUL g) (hi : 0 ≤ i ∧ i + 6 ≤ (LN : Int)) (hW : WD J c Kd J Rd n s0) (hR : okR J) (L1771 : ∀ (K2 : ZK) (J2 P2 : Nat → Nat → Int) (R2 : ZR) (n2 s2 : Nat), WD J2 (c + 1) K2 J2 R2 n2 s2 → okR J2 → Z g l ML_law 1771 [some (.ref 0), some (.ref 4), some (.ref 42), some (.int (iZ i))] [] (KF K2, zi J2, zj P2, RF R2, n2, s2) Q0) : Z g l ML_law 501 [some (.ref 0), some (.ref 4), some (.ref 42), some (.int (iZ i))] [] (KF Kd, zi J, zj P, RF Rd, n, s0) Q0 := by
  refine z_aload_n dL_law_501 rfl rfl ?_
  refine z_aload_n dL_law_502 rfl rfl ?_
  refine z_iload_n dL_law_503 rfl rfl ?_
  refine c_iconst dL_law_504 ?_
  refine c_iadd dL_law_505 ?_
  refine c_iald_old dL_law_506 (by decide) hS (by omega) (by omega) ?_
  refine z_aload_n dL_law_507 rfl rfl ?_
  refine z_iload_n dL_law_508 rfl rfl ?_
  refine c_iconst dL_law_509 ?_
  refine c_iadd dL_law_510 ?_
  refine c_iald_old dL_law_511 (by decide) hS (by omega) (by omega) ?_
  refine z_callv (N := MX8_of) (ci := 8) (nas := 2) (as := [_, _]) dL_law_512 w_369 w_366 w_367 w_368 w_1 (by decide +kernel) rfl rfl rfl (by decide) (Nat.le_of_ble_eq_true rfl) (by decide) (by decide) (ZC.mono (cMX8_of (hF _) (hF _) hW) ?_)
  rintro _ _ ⟨rfl, K1, J1, P1, R1, n1, s1, rfl, hW1, hc1, hp1⟩
  have hK1 := OKA_cs hW.2.2.2.1 hc1
  have hR1 := okR_cs hR hc1
  refine z_aload_n dL_law_515 rfl rfl ?_
  refine z_aload_n dL_law_516 rfl rfl ?_
  refine z_iload_n dL_law_517 rfl rfl ?_
  refine c_iconst dL_law_518 ?_
  refine c_iadd dL_law_519 ?_
  refine c_iald_old dL_law_520 (by decide) hS (by omega) (by omega) ?_
  refine z_aload_n dL_law_521 rfl rfl ?_
  refine z_iload_n dL_law_522 rfl rfl ?_
  refine c_iconst dL_law_523 ?_
  refine c_iadd dL_law_524 ?_
  refine c_iald_old dL_law_525 (by decide) hS (by omega) (by omega) ?_
  refine z_callv (N := MX9_of) (ci := 9) (nas := 2) (as := [_, _]) dL_law_526 w_973 w_970 w_971 w_972 w_8 (by decide +kernel) rfl rfl rfl (by decide) (Nat.le_of_ble_eq_true rfl) (by decide) (by decide) (ZC.mono (cMX9_of (hF _) (hF _) hK1.1) ?_)
  rintro _ _ ⟨J2, P2, rfl, rfl, hq2, hpp2⟩
  have e2 : aOf J1 (f (i + 1).toNat) (f (i + 2).toNat) = (aOf J (f (i + 1).toNat) (f (i + 2).toNat)) := (congrArg (fun z => aOf z (f (i + 1).toNat) (f (i + 2).toNat)) (mrg_self hc1)).symm.trans g_Of
  rw [e2]
  refine z_icmp_eq (tgt := 1771) dL_law_529 (by decide) (fun _ => ?_) (fun h => absurd rfl h)
  exact L1771 _ _ _ _ _ _ (WD_ref hW1 (by rw [mrg_self hc1]; exact hq2)) (okR_ref (B := J) hR1 (by rw [mrg_self hc1]; exact hq2))
set_option maxHeartbeats 4000000 in
set_option maxRecDepth 100000 in
theorem law_8 {f : Nat → Int} {LN : Nat} {i : Int} {Q0 : Option Value → ZH → Prop} (hS : g.2.2.2.2 0 = (LN, fun j => iZ (f j))) (hLN : LN ≤ 3072) (hF : ∀ j, rI (f j)) (hO : ORUL g) (hi : 0 ≤ i ∧ i + 6 ≤ (LN : Int)) (hW : WD J c Kd J Rd n s0) (hR : okR J) (L1771 : ∀ (K2 : ZK) (J2 P2 : Nat → Nat → Int) (R2 : ZR) (n2 s2 : Nat), WD J2 (c + 1) K2 J2 R2 n2 s2 → okR J2 → Z g l ML_law 1771 [some (.ref 0), some (.ref 4), some (.ref 42), some (.int (iZ i))] [] (KF K2, zi J2, zj P2, RF R2, n2, s2) Q0) : Z g l ML_law 534 [some (.ref 0), some (.ref 4), some (.ref 42), some (.int (iZ i))] [] (KF Kd, zi J, zj P, RF Rd, n, s0) Q0 := by
  refine z_aload_n dL_law_534 rfl rfl ?_
  refine z_aload_n dL_law_535 rfl rfl ?_
  refine z_iload_n dL_law_536 rfl rfl ?_
  refine c_iconst dL_law_537 ?_
  refine c_iadd dL_law_538 ?_
  refine c_iald_old dL_law_539 (by decide) hS (by omega) (by omega) ?_
  refine z_aload_n dL_law_540 rfl rfl ?_
  refine z_iload_n dL_law_541 rfl rfl ?_
  refine c_iconst dL_law_542 ?_
  refine c_iadd dL_law_543 ?_
  refine c_iald_old dL_law_544 (by decide) hS (by omega) (by omega) ?_
  refine z_aload_n dL_law_545 rfl rfl ?_
  refine z_iload_n dL_law_546 rfl rfl ?_
  refine c_iconst dL_law_547 ?_
  refine c_iadd dL_law_548 ?_
  refine c_iald_old dL_law_549 (by decide) hS (by omega) (by omega) ?_
  refine z_aload_n dL_law_550 rfl rfl ?_
  refine z_iload_n dL_law_551 rfl rfl ?_
  refine c_iconst dL_law_552 ?_
  refine c_iadd dL_law_553 ?_
  refine c_iald_old dL_law_554 (by decide) hS (by omega) (by omega) ?_
  refine z_aload_n dL_law_555 rfl rfl ?_
  refine z_iload_n dL_law_556 rfl rfl ?_
  refine c_iconst dL_law_557 ?_
  refine c_iadd dL_law_558 ?_
  refine c_iald_old dL_law_559 (by decide) hS (by omega) (by omega) ?_
  refine z_callv (N := MX8_worth) (ci := 8) (nas := 5) (as := [_, _, _, _, _]) dL_law_560 w_380 w_377 w_378 w_379 w_1 (by decide +kernel) rfl rfl rfl (by decide) (Nat.le_of_ble_eq_true rfl) (by decide) (by decide) (ZC.mono (cMX8_worth (hF _) (hF _) (hF _) (hF _) (hF _) hW) ?_)
  rintro _ _ ⟨rfl, K1, J1, P1, R1, n1, s1, rfl, hW1, hc1, hp1⟩
  have hK1 := OKA_cs hW.2.2.2.1 hc1
  have hR1 := okR_cs hR hc1
  refine z_aload_n dL_law_563 rfl rfl ?_
  refine z_aload_n dL_law_564 rfl rfl ?_
  refine z_iload_n dL_law_565 rfl rfl ?_
  refine c_iconst dL_law_566 ?_
  refine c_iadd dL_law_567 ?_
  refine c_iald_old dL_law_568 (by decide) hS (by omega) (by omega) ?_
  refine z_aload_n dL_law_569 rfl rfl ?_
  refine z_iload_n dL_law_570 rfl rfl ?_
  refine c_iconst dL_law_571 ?_
  refine c_iadd dL_law_572 ?_
  refine c_iald_old dL_law_573 (by decide) hS (by omega) (by omega) ?_
  refine z_aload_n dL_law_574 rfl rfl ?_
  refine z_iload_n dL_law_575 rfl rfl ?_
  refine c_iconst dL_law_576 ?_
  refine c_iadd dL_law_577 ?_
  refine c_iald_old dL_law_578 (by decide) hS (by omega) (by omega) ?_
  refine z_aload_n dL_law_579 rfl rfl ?_
  refine z_iload_n dL_law_580 rfl rfl ?_
  refine c_iconst dL_law_581 ?_
  refine c_iadd dL_law_582 ?_
  refine c_iald_old dL_law_583 (by decide) hS (by omega) (by omega) ?_
  refine z_aload_n dL_law_584 rfl rfl ?_
  refine z_iload_n dL_law_585 rfl rfl ?_
  refine c_iconst dL_law_586 ?_
  refine c_iadd dL_law_587 ?_
  refine c_iald_old dL_law_588 (by decide) hS (by omega) (by omega) ?_
  refine z_callv (N := MX9_worth) (ci := 9) (nas := 5) (as := [_, _, _, _, _]) dL_law_589 w_978 w_975 w_976 w_977 w_8 (by decide +kernel) rfl rfl rfl (by decide) (Nat.le_of_ble_eq_true rfl) (by decide) (by decide) (ZC.mono (cMX9_worth (hF _) (hF _) (hF _) (hF _) (hF _) hK1.1) ?_)
  rintro _ _ ⟨J2, P2, rfl, rfl, hq2, hpp2⟩
  have e2 : aWorth J1 (f (i + 1).toNat) (f (i + 2).toNat) (f (i + 3).toNat) (f (i + 4).toNat) (f (i + 5).toNat) = (aWorth J (f (i + 1).toNat) (f (i + 2).toNat) (f (i + 3).toNat) (f (i + 4).toNat) (f (i + 5).toNat)) := (congrArg (fun z => aWorth z (f (i + 1).toNat) (f (i + 2).toNat) (f (i + 3).toNat) (f (i + 4).toNat) (f (i + 5).toNat)) (mrg_self hc1)).symm.trans g_Worth
  rw [e2]
  refine z_lsame (tgt := 1771) rfl dL_law_592 dL_law_593 (by decide) ?_
  exact L1771 _ _ _ _ _ _ (WD_ref hW1 (by rw [mrg_self hc1]; exact hq2)) (okR_ref (B := J) hR1 (by rw [mrg_self hc1]; exact hq2))
set_option maxHeartbeats 4000000 in
set_option maxRecDepth 100000 in
theorem law_9 {f : Nat → Int} {LN : Nat} {i : Int} {Q0 : Option Value → ZH → Prop} (hS : g.2.2.2.2 0 = (LN, fun j => iZ (f j))) (hLN : LN ≤ 3072) (hF : ∀ j, rI (f j)) (hO : ORUL g) (hi : 0 ≤ i ∧ i + 6 ≤ (LN : Int)) (hW : WD J c Kd J Rd n s0) (hR : okR J) (L1771 : ∀ (K2 : ZK) (J2 P2 : Nat → Nat → Int) (R2 : ZR) (n2 s2 : Nat), WD J2 (c + 1) K2 J2 R2 n2 s2 → okR J2 → Z g l ML_law 1771 [some (.ref 0), some (.ref 4), some (.ref 42), some (.int (iZ i))] [] (KF K2, zi J2, zj P2, RF R2, n2, s2) Q0) : Z g l ML_law 598 [some (.ref 0), some (.ref 4), some (.ref 42), some (.int (iZ i))] [] (KF Kd, zi J, zj P, RF Rd, n, s0) Q0 := by
  refine z_aload_n dL_law_598 rfl rfl ?_
  refine z_aload_n dL_law_599 rfl rfl ?_
  refine z_iload_n dL_law_600 rfl rfl ?_
  refine c_iconst dL_law_601 ?_
  refine c_iadd dL_law_602 ?_
  refine c_iald_old dL_law_603 (by decide) hS (by omega) (by omega) ?_
  refine z_aload_n dL_law_604 rfl rfl ?_
  refine z_iload_n dL_law_605 rfl rfl ?_
  refine c_iconst dL_law_606 ?_
  refine c_iadd dL_law_607 ?_
  refine c_iald_old dL_law_608 (by decide) hS (by omega) (by omega) ?_
  refine z_aload_n dL_law_609 rfl rfl ?_
  refine z_iload_n dL_law_610 rfl rfl ?_
  refine c_iconst dL_law_611 ?_
  refine c_iadd dL_law_612 ?_
  refine c_iald_old dL_law_613 (by decide) hS (by omega) (by omega) ?_
  refine z_aload_n dL_law_614 rfl rfl ?_
  refine z_iload_n dL_law_615 rfl rfl ?_
  refine c_iconst dL_law_616 ?_
  refine c_iadd dL_law_617 ?_
  refine c_iald_old dL_law_618 (by decide) hS (by omega) (by omega) ?_
  refine z_callv (N := MX8_change) (ci := 8) (nas := 4) (as := [_, _, _, _]) dL_law_619 w_393 w_390 w_391 w_392 w_1 (by decide +kernel) rfl rfl rfl (by decide) (Nat.le_of_ble_eq_true rfl) (by decide) (by decide) (ZC.mono (cMX8_change (hF _) (hF _) (hF _) (hF _) hW) ?_)
  rintro _ _ ⟨rfl, K1, J1, P1, R1, n1, s1, rfl, hW1, hc1, hp1⟩
  have hK1 := OKA_cs hW.2.2.2.1 hc1
  have hR1 := okR_cs hR hc1
  refine z_aload_n dL_law_622 rfl rfl ?_
  refine z_aload_n dL_law_623 rfl rfl ?_
  refine z_iload_n dL_law_624 rfl rfl ?_
  refine c_iconst dL_law_625 ?_
  refine c_iadd dL_law_626 ?_
  refine c_iald_old dL_law_627 (by decide) hS (by omega) (by omega) ?_
  refine z_aload_n dL_law_628 rfl rfl ?_
  refine z_iload_n dL_law_629 rfl rfl ?_
  refine c_iconst dL_law_630 ?_
  refine c_iadd dL_law_631 ?_
  refine c_iald_old dL_law_632 (by decide) hS (by omega) (by omega) ?_
  refine z_aload_n dL_law_633 rfl rfl ?_
  refine z_iload_n dL_law_634 rfl rfl ?_
  refine c_iconst dL_law_635 ?_
  refine c_iadd dL_law_636 ?_
  refine c_iald_old dL_law_637 (by decide) hS (by omega) (by omega) ?_
  refine z_aload_n dL_law_638 rfl rfl ?_
  refine z_iload_n dL_law_639 rfl rfl ?_
  refine c_iconst dL_law_640 ?_
  refine c_iadd dL_law_641 ?_
  refine c_iald_old dL_law_642 (by decide) hS (by omega) (by omega) ?_
  refine z_callv (N := MX9_change) (ci := 9) (nas := 4) (as := [_, _, _, _]) dL_law_643 w_985 w_982 w_983 w_984 w_8 (by decide +kernel) rfl rfl rfl (by decide) (Nat.le_of_ble_eq_true rfl) (by decide) (by decide) (ZC.mono (cMX9_change (hF _) (hF _) (hF _) (hF _) hK1.1) ?_)
  rintro _ _ ⟨J2, P2, rfl, rfl, hq2, hpp2⟩
  have e2 : aChange J1 (f (i + 1).toNat) (f (i + 2).toNat) (f (i + 3).toNat) (f (i + 4).toNat) = mp J1 (aChange J (f (i + 1).toNat) (f (i + 2).toNat) (f (i + 3).toNat) (f (i + 4).toNat)) := (congrArg (fun z => aChange z (f (i + 1).toNat) (f (i + 2).toNat) (f (i + 3).toNat) (f (i + 4).toNat)) (mrg_self hc1)).symm.trans g_Change
  rw [e2] at hq2 ⊢
  refine z_icmp_eq (tgt := 1771) dL_law_646 (by decide) (fun _ => ?_) (fun h => absurd rfl h)
  exact L1771 _ _ _ _ _ _ (WD_ref hW1 hq2) (okR_ref hR1 hq2)
set_option maxHeartbeats 4000000 in
set_option maxRecDepth 100000 in
theorem law_10 {f : Nat → Int} {LN : Nat} {i : Int} {Q0 : Option Value → ZH → Prop} (hS : g.2.2.2.2 0 = (LN, fun j => iZ (f j))) (hLN : LN ≤ 3072) (hF : ∀ j, rI (f j)) (hO : ORUL g) (hi : 0 ≤ i ∧ i + 6 ≤ (LN : Int)) (hW : WD J c Kd J Rd n s0) (hR : okR J) (L1771 : ∀ (K2 : ZK) (J2 P2 : Nat → Nat → Int) (R2 : ZR) (n2 s2 : Nat), WD J2 (c + 1) K2 J2 R2 n2 s2 → okR J2 → Z g l ML_law 1771 [some (.ref 0), some (.ref 4), some (.ref 42), some (.int (iZ i))] [] (KF K2, zi J2, zj P2, RF R2, n2, s2) Q0) : Z g l ML_law 651 [some (.ref 0), some (.ref 4), some (.ref 42), some (.int (iZ i))] [] (KF Kd, zi J, zj P, RF Rd, n, s0) Q0 := by
  refine z_aload_n dL_law_651 rfl rfl ?_
  refine z_aload_n dL_law_652 rfl rfl ?_
  refine z_iload_n dL_law_653 rfl rfl ?_
  refine c_iconst dL_law_654 ?_
  refine c_iadd dL_law_655 ?_
  refine c_iald_old dL_law_656 (by decide) hS (by omega) (by omega) ?_
  refine z_aload_n dL_law_657 rfl rfl ?_
  refine z_iload_n dL_law_658 rfl rfl ?_
  refine c_iconst dL_law_659 ?_
  refine c_iadd dL_law_660 ?_
  refine c_iald_old dL_law_661 (by decide) hS (by omega) (by omega) ?_
  refine z_aload_n dL_law_662 rfl rfl ?_
  refine z_iload_n dL_law_663 rfl rfl ?_
  refine c_iconst dL_law_664 ?_
  refine c_iadd dL_law_665 ?_
  refine c_iald_old dL_law_666 (by decide) hS (by omega) (by omega) ?_
  refine z_callv (N := MX8_swap) (ci := 8) (nas := 3) (as := [_, _, _]) dL_law_667 w_402 w_399 w_400 w_401 w_1 (by decide +kernel) rfl rfl rfl (by decide) (Nat.le_of_ble_eq_true rfl) (by decide) (by decide) (ZC.mono (cMX8_swap (hF _) (hF _) (hF _) hW) ?_)
  rintro _ _ ⟨rfl, K1, J1, P1, R1, n1, s1, rfl, hW1, hc1, hp1⟩
  have hK1 := OKA_cs hW.2.2.2.1 hc1
  have hR1 := okR_cs hR hc1
  refine z_aload_n dL_law_670 rfl rfl ?_
  refine z_aload_n dL_law_671 rfl rfl ?_
  refine z_iload_n dL_law_672 rfl rfl ?_
  refine c_iconst dL_law_673 ?_
  refine c_iadd dL_law_674 ?_
  refine c_iald_old dL_law_675 (by decide) hS (by omega) (by omega) ?_
  refine z_aload_n dL_law_676 rfl rfl ?_
  refine z_iload_n dL_law_677 rfl rfl ?_
  refine c_iconst dL_law_678 ?_
  refine c_iadd dL_law_679 ?_
  refine c_iald_old dL_law_680 (by decide) hS (by omega) (by omega) ?_
  refine z_aload_n dL_law_681 rfl rfl ?_
  refine z_iload_n dL_law_682 rfl rfl ?_
  refine c_iconst dL_law_683 ?_
  refine c_iadd dL_law_684 ?_
  refine c_iald_old dL_law_685 (by decide) hS (by omega) (by omega) ?_
  refine z_callv (N := MX9_swap) (ci := 9) (nas := 3) (as := [_, _, _]) dL_law_686 w_995 w_992 w_993 w_994 w_8 (by decide +kernel) rfl rfl rfl (by decide) (Nat.le_of_ble_eq_true rfl) (by decide) (by decide) (ZC.mono (cMX9_swap (hF _) (hF _) (hF _) hK1.1) ?_)
  rintro _ _ ⟨J2, P2, rfl, rfl, hq2, hpp2⟩
  have e2 : aSwap J1 (f (i + 1).toNat) (f (i + 2).toNat) (f (i + 3).toNat) = mp J1 (aSwap J (f (i + 1).toNat) (f (i + 2).toNat) (f (i + 3).toNat)) := (congrArg (fun z => aSwap z (f (i + 1).toNat) (f (i + 2).toNat) (f (i + 3).toNat)) (mrg_self hc1)).symm.trans g_Swap
  rw [e2] at hq2 ⊢
  refine z_icmp_eq (tgt := 1771) dL_law_689 (by decide) (fun _ => ?_) (fun h => absurd rfl h)
  exact L1771 _ _ _ _ _ _ (WD_ref hW1 hq2) (okR_ref hR1 hq2)
set_option maxHeartbeats 4000000 in
set_option maxRecDepth 100000 in
theorem law_11 {f : Nat → Int} {LN : Nat} {i : Int} {Q0 : Option Value → ZH → Prop} (hS : g.2.2.2.2 0 = (LN, fun j => iZ (f j))) (hLN : LN ≤ 3072) (hF : ∀ j, rI (f j)) (hO : ORUL g) (hi : 0 ≤ i ∧ i + 6 ≤ (LN : Int)) (hW : WD J c Kd J Rd n s0) (hR : okR J) (L1771 : ∀ (K2 : ZK) (J2 P2 : Nat → Nat → Int) (R2 : ZR) (n2 s2 : Nat), WD J2 (c + 1) K2 J2 R2 n2 s2 → okR J2 → Z g l ML_law 1771 [some (.ref 0), some (.ref 4), some (.ref 42), some (.int (iZ i))] [] (KF K2, zi J2, zj P2, RF R2, n2, s2) Q0) : Z g l ML_law 694 [some (.ref 0), some (.ref 4), some (.ref 42), some (.int (iZ i))] [] (KF Kd, zi J, zj P, RF Rd, n, s0) Q0 := by
  refine z_aload_n dL_law_694 rfl rfl ?_
  refine z_aload_n dL_law_695 rfl rfl ?_
  refine z_iload_n dL_law_696 rfl rfl ?_
  refine c_iconst dL_law_697 ?_
  refine c_iadd dL_law_698 ?_
  refine c_iald_old dL_law_699 (by decide) hS (by omega) (by omega) ?_
  refine z_aload_n dL_law_700 rfl rfl ?_
  refine z_iload_n dL_law_701 rfl rfl ?_
  refine c_iconst dL_law_702 ?_
  refine c_iadd dL_law_703 ?_
  refine c_iald_old dL_law_704 (by decide) hS (by omega) (by omega) ?_
  refine z_callv (N := MX8_scale) (ci := 8) (nas := 2) (as := [_, _]) dL_law_705 w_410 w_407 w_408 w_409 w_1 (by decide +kernel) rfl rfl rfl (by decide) (Nat.le_of_ble_eq_true rfl) (by decide) (by decide) (ZC.mono (cMX8_scale (hF _) (hF _) hW) ?_)
  rintro _ _ ⟨rfl, K1, J1, P1, R1, n1, s1, rfl, hW1, hc1, hp1⟩
  have hK1 := OKA_cs hW.2.2.2.1 hc1
  have hR1 := okR_cs hR hc1
  refine z_aload_n dL_law_708 rfl rfl ?_
  refine z_aload_n dL_law_709 rfl rfl ?_
  refine z_iload_n dL_law_710 rfl rfl ?_
  refine c_iconst dL_law_711 ?_
  refine c_iadd dL_law_712 ?_
  refine c_iald_old dL_law_713 (by decide) hS (by omega) (by omega) ?_
  refine z_aload_n dL_law_714 rfl rfl ?_
  refine z_iload_n dL_law_715 rfl rfl ?_
  refine c_iconst dL_law_716 ?_
  refine c_iadd dL_law_717 ?_
  refine c_iald_old dL_law_718 (by decide) hS (by omega) (by omega) ?_
  refine z_callv (N := MX9_scale) (ci := 9) (nas := 2) (as := [_, _]) dL_law_719 w_999 w_996 w_997 w_998 w_8 (by decide +kernel) rfl rfl rfl (by decide) (Nat.le_of_ble_eq_true rfl) (by decide) (by decide) (ZC.mono (cMX9_scale (hF _) (hF _) hK1.1) ?_)
  rintro _ _ ⟨J2, P2, rfl, rfl, hq2, hpp2⟩
  have e2 : aScale J1 (f (i + 1).toNat) (f (i + 2).toNat) = mp J1 (aScale J (f (i + 1).toNat) (f (i + 2).toNat)) := (congrArg (fun z => aScale z (f (i + 1).toNat) (f (i + 2).toNat)) (mrg_self hc1)).symm.trans g_Scale
  rw [e2] at hq2 ⊢
  refine z_icmp_eq (tgt := 1771) dL_law_722 (by decide) (fun _ => ?_) (fun h => absurd rfl h)
  exact L1771 _ _ _ _ _ _ (WD_ref hW1 hq2) (okR_ref hR1 hq2)
set_option maxHeartbeats 4000000 in
set_option maxRecDepth 100000 in
theorem law_12 {f : Nat → Int} {LN : Nat} {i : Int} {Q0 : Option Value → ZH → Prop} (hS : g.2.2.2.2 0 = (LN, fun j => iZ (f j))) (hLN : LN ≤ 3072) (hF : ∀ j, rI (f j)) (hO : ORUL g) (hi : 0 ≤ i ∧ i + 6 ≤ (LN : Int)) (hW : WD J c Kd J Rd n s0) (hR : okR J) (L1771 : ∀ (K2 : ZK) (J2 P2 : Nat → Nat → Int) (R2 : ZR) (n2 s2 : Nat), WD J2 (c + 1) K2 J2 R2 n2 s2 → okR J2 → Z g l ML_law 1771 [some (.ref 0), some (.ref 4), some (.ref 42), some (.int (iZ i))] [] (KF K2, zi J2, zj P2, RF R2, n2, s2) Q0) : Z g l ML_law 727 [some (.ref 0), some (.ref 4), some (.ref 42), some (.int (iZ i))] [] (KF Kd, zi J, zj P, RF Rd, n, s0) Q0 := by
  refine z_aload_n dL_law_727 rfl rfl ?_
  refine z_aload_n dL_law_728 rfl rfl ?_
  refine z_iload_n dL_law_729 rfl rfl ?_
  refine c_iconst dL_law_730 ?_
  refine c_iadd dL_law_731 ?_
  refine c_iald_old dL_law_732 (by decide) hS (by omega) (by omega) ?_
  refine z_aload_n dL_law_733 rfl rfl ?_
  refine z_iload_n dL_law_734 rfl rfl ?_
  refine c_iconst dL_law_735 ?_
  refine c_iadd dL_law_736 ?_
  refine c_iald_old dL_law_737 (by decide) hS (by omega) (by omega) ?_
  refine z_aload_n dL_law_738 rfl rfl ?_
  refine z_iload_n dL_law_739 rfl rfl ?_
  refine c_iconst dL_law_740 ?_
  refine c_iadd dL_law_741 ?_
  refine c_iald_old dL_law_742 (by decide) hS (by omega) (by omega) ?_
  refine z_callv (N := MX8_join) (ci := 8) (nas := 3) (as := [_, _, _]) dL_law_743 w_418 w_415 w_416 w_417 w_1 (by decide +kernel) rfl rfl rfl (by decide) (Nat.le_of_ble_eq_true rfl) (by decide) (by decide) (ZC.mono (cMX8_join (hF _) (hF _) (hF _) hW) ?_)
  rintro _ _ ⟨rfl, K1, J1, P1, R1, n1, s1, rfl, hW1, hc1, hp1⟩
  have hK1 := OKA_cs hW.2.2.2.1 hc1
  have hR1 := okR_cs hR hc1
  refine z_aload_n dL_law_746 rfl rfl ?_
  refine z_aload_n dL_law_747 rfl rfl ?_
  refine z_iload_n dL_law_748 rfl rfl ?_
  refine c_iconst dL_law_749 ?_
  refine c_iadd dL_law_750 ?_
  refine c_iald_old dL_law_751 (by decide) hS (by omega) (by omega) ?_
  refine z_aload_n dL_law_752 rfl rfl ?_
  refine z_iload_n dL_law_753 rfl rfl ?_
  refine c_iconst dL_law_754 ?_
  refine c_iadd dL_law_755 ?_
  refine c_iald_old dL_law_756 (by decide) hS (by omega) (by omega) ?_
  refine z_aload_n dL_law_757 rfl rfl ?_
  refine z_iload_n dL_law_758 rfl rfl ?_
  refine c_iconst dL_law_759 ?_
  refine c_iadd dL_law_760 ?_
  refine c_iald_old dL_law_761 (by decide) hS (by omega) (by omega) ?_
  refine z_callv (N := MX9_join) (ci := 9) (nas := 3) (as := [_, _, _]) dL_law_762 w_1003 w_1000 w_1001 w_1002 w_8 (by decide +kernel) rfl rfl rfl (by decide) (Nat.le_of_ble_eq_true rfl) (by decide) (by decide) (ZC.mono (cMX9_join (hF _) (hF _) (hF _) hK1.1) ?_)
  rintro _ _ ⟨J2, P2, rfl, rfl, hq2, hpp2⟩
  have e2 : aJoin J1 (f (i + 1).toNat) (f (i + 2).toNat) (f (i + 3).toNat) = mp J1 (aJoin J (f (i + 1).toNat) (f (i + 2).toNat) (f (i + 3).toNat)) := (congrArg (fun z => aJoin z (f (i + 1).toNat) (f (i + 2).toNat) (f (i + 3).toNat)) (mrg_self hc1)).symm.trans g_Join
  rw [e2] at hq2 ⊢
  refine z_icmp_eq (tgt := 1771) dL_law_765 (by decide) (fun _ => ?_) (fun h => absurd rfl h)
  exact L1771 _ _ _ _ _ _ (WD_ref hW1 hq2) (okR_ref hR1 hq2)
set_option maxHeartbeats 4000000 in
set_option maxRecDepth 100000 in
theorem law_13 {f : Nat → Int} {LN : Nat} {i : Int} {Q0 : Option Value → ZH → Prop} (hS : g.2.2.2.2 0 = (LN, fun j => iZ (f j))) (hLN : LN ≤ 3072) (hF : ∀ j, rI (f j)) (hO : ORUL g) (hi : 0 ≤ i ∧ i + 6 ≤ (LN : Int)) (hW : WD J c Kd J Rd n s0) (hR : okR J) (L1771 : ∀ (K2 : ZK) (J2 P2 : Nat → Nat → Int) (R2 : ZR) (n2 s2 : Nat), WD J2 (c + 1) K2 J2 R2 n2 s2 → okR J2 → Z g l ML_law 1771 [some (.ref 0), some (.ref 4), some (.ref 42), some (.int (iZ i))] [] (KF K2, zi J2, zj P2, RF R2, n2, s2) Q0) : Z g l ML_law 770 [some (.ref 0), some (.ref 4), some (.ref 42), some (.int (iZ i))] [] (KF Kd, zi J, zj P, RF Rd, n, s0) Q0 := by
  refine z_aload_n dL_law_770 rfl rfl ?_
  refine z_aload_n dL_law_771 rfl rfl ?_
  refine z_iload_n dL_law_772 rfl rfl ?_
  refine c_iconst dL_law_773 ?_
  refine c_iadd dL_law_774 ?_
  refine c_iald_old dL_law_775 (by decide) hS (by omega) (by omega) ?_
  refine z_callv (N := MX8_reduce) (ci := 8) (nas := 1) (as := [_]) dL_law_776 w_426 w_423 w_424 w_425 w_1 (by decide +kernel) rfl rfl rfl (by decide) (Nat.le_of_ble_eq_true rfl) (by decide) (by decide) (ZC.mono (cMX8_reduce (hF _) hW) ?_)
  rintro _ _ ⟨rfl, K1, J1, P1, R1, n1, s1, rfl, hW1, hc1, hp1⟩
  have hK1 := OKA_cs hW.2.2.2.1 hc1
  have hR1 := okR_cs hR hc1
  refine z_aload_n dL_law_779 rfl rfl ?_
  refine z_aload_n dL_law_780 rfl rfl ?_
  refine z_iload_n dL_law_781 rfl rfl ?_
  refine c_iconst dL_law_782 ?_
  refine c_iadd dL_law_783 ?_
  refine c_iald_old dL_law_784 (by decide) hS (by omega) (by omega) ?_
  refine z_callv (N := MX9_reduce) (ci := 9) (nas := 1) (as := [_]) dL_law_785 w_1007 w_1004 w_1005 w_1006 w_8 (by decide +kernel) rfl rfl rfl (by decide) (Nat.le_of_ble_eq_true rfl) (by decide) (by decide) (ZC.mono (cMX9_reduce (hF _) hK1.1) ?_)
  rintro _ _ ⟨J2, P2, rfl, rfl, hq2, hpp2⟩
  have e2 : aReduce J1 (f (i + 1).toNat) = mp J1 (aReduce J (f (i + 1).toNat)) := (congrArg (fun z => aReduce z (f (i + 1).toNat)) (mrg_self hc1)).symm.trans g_Reduce
  rw [e2] at hq2 ⊢
  refine z_icmp_eq (tgt := 1771) dL_law_788 (by decide) (fun _ => ?_) (fun h => absurd rfl h)
  exact L1771 _ _ _ _ _ _ (WD_ref hW1 hq2) (okR_ref hR1 hq2)
set_option maxHeartbeats 4000000 in
set_option maxRecDepth 100000 in
theorem law_14 {f : Nat → Int} {LN : Nat} {i : Int} {Q0 : Option Value → ZH → Prop} (hS : g.2.2.2.2 0 = (LN, fun j => iZ (f j))) (hLN : LN ≤ 3072) (hF : ∀ j, rI (f j)) (hO : ORUL g) (hi : 0 ≤ i ∧ i + 6 ≤ (LN : Int)) (hW : WD J c Kd J Rd n s0) (hR : okR J) (L1771 : ∀ (K2 : ZK) (J2 P2 : Nat → Nat → Int) (R2 : ZR) (n2 s2 : Nat), WD J2 (c + 1) K2 J2 R2 n2 s2 → okR J2 → Z g l ML_law 1771 [some (.ref 0), some (.ref 4), some (.ref 42), some (.int (iZ i))] [] (KF K2, zi J2, zj P2, RF R2, n2, s2) Q0) : Z g l ML_law 793 [some (.ref 0), some (.ref 4), some (.ref 42), some (.int (iZ i))] [] (KF Kd, zi J, zj P, RF Rd, n, s0) Q0 := by
  refine z_aload_n dL_law_793 rfl rfl ?_
  refine z_aload_n dL_law_794 rfl rfl ?_
  refine z_iload_n dL_law_795 rfl rfl ?_
  refine c_iconst dL_law_796 ?_
  refine c_iadd dL_law_797 ?_
  refine c_iald_old dL_law_798 (by decide) hS (by omega) (by omega) ?_
  refine z_aload_n dL_law_799 rfl rfl ?_
  refine z_iload_n dL_law_800 rfl rfl ?_
  refine c_iconst dL_law_801 ?_
  refine c_iadd dL_law_802 ?_
  refine c_iald_old dL_law_803 (by decide) hS (by omega) (by omega) ?_
  refine z_callv (N := MX8_same) (ci := 8) (nas := 2) (as := [_, _]) dL_law_804 w_437 w_434 w_435 w_436 w_1 (by decide +kernel) rfl rfl rfl (by decide) (Nat.le_of_ble_eq_true rfl) (by decide) (by decide) (ZC.mono (cMX8_same (hF _) (hF _) hW) ?_)
  rintro _ _ ⟨rfl, K1, J1, P1, R1, n1, s1, rfl, hW1, hc1, hp1⟩
  have hK1 := OKA_cs hW.2.2.2.1 hc1
  have hR1 := okR_cs hR hc1
  refine z_aload_n dL_law_807 rfl rfl ?_
  refine z_aload_n dL_law_808 rfl rfl ?_
  refine z_iload_n dL_law_809 rfl rfl ?_
  refine c_iconst dL_law_810 ?_
  refine c_iadd dL_law_811 ?_
  refine c_iald_old dL_law_812 (by decide) hS (by omega) (by omega) ?_
  refine z_aload_n dL_law_813 rfl rfl ?_
  refine z_iload_n dL_law_814 rfl rfl ?_
  refine c_iconst dL_law_815 ?_
  refine c_iadd dL_law_816 ?_
  refine c_iald_old dL_law_817 (by decide) hS (by omega) (by omega) ?_
  refine z_callv (N := MX9_same) (ci := 9) (nas := 2) (as := [_, _]) dL_law_818 w_1015 w_1012 w_1013 w_1014 w_8 (by decide +kernel) rfl rfl rfl (by decide) (Nat.le_of_ble_eq_true rfl) (by decide) (by decide) (ZC.mono (cMX9_same (hF _) (hF _) hK1.1) ?_)
  rintro _ _ ⟨J2, P2, rfl, rfl, hq2, hpp2⟩
  have e2 : aSame J1 (f (i + 1).toNat) (f (i + 2).toNat) = (aSame J (f (i + 1).toNat) (f (i + 2).toNat)) := (congrArg (fun z => aSame z (f (i + 1).toNat) (f (i + 2).toNat)) (mrg_self hc1)).symm.trans g_Same
  rw [e2]
  refine z_icmp_eq (tgt := 1771) dL_law_821 (by decide) (fun _ => ?_) (fun h => absurd rfl h)
  exact L1771 _ _ _ _ _ _ (WD_ref hW1 (by rw [mrg_self hc1]; exact hq2)) (okR_ref (B := J) hR1 (by rw [mrg_self hc1]; exact hq2))
set_option maxHeartbeats 4000000 in
set_option maxRecDepth 100000 in
theorem law_15 {f : Nat → Int} {LN : Nat} {i : Int} {Q0 : Option Value → ZH → Prop} (hS : g.2.2.2.2 0 = (LN, fun j => iZ (f j))) (hLN : LN ≤ 3072) (hF : ∀ j, rI (f j)) (hO : ORUL g) (hi : 0 ≤ i ∧ i + 6 ≤ (LN : Int)) (hW : WD J c Kd J Rd n s0) (hR : okR J) (L1771 : ∀ (K2 : ZK) (J2 P2 : Nat → Nat → Int) (R2 : ZR) (n2 s2 : Nat), WD J2 (c + 1) K2 J2 R2 n2 s2 → okR J2 → Z g l ML_law 1771 [some (.ref 0), some (.ref 4), some (.ref 42), some (.int (iZ i))] [] (KF K2, zi J2, zj P2, RF R2, n2, s2) Q0) : Z g l ML_law 826 [some (.ref 0), some (.ref 4), some (.ref 42), some (.int (iZ i))] [] (KF Kd, zi J, zj P, RF Rd, n, s0) Q0 := by
  refine z_aload_n dL_law_826 rfl rfl ?_
  refine z_aload_n dL_law_827 rfl rfl ?_
  refine z_iload_n dL_law_828 rfl rfl ?_
  refine c_iconst dL_law_829 ?_
  refine c_iadd dL_law_830 ?_
  refine c_iald_old dL_law_831 (by decide) hS (by omega) (by omega) ?_
  refine z_aload_n dL_law_832 rfl rfl ?_
  refine z_iload_n dL_law_833 rfl rfl ?_
  refine c_iconst dL_law_834 ?_
  refine c_iadd dL_law_835 ?_
  refine c_iald_old dL_law_836 (by decide) hS (by omega) (by omega) ?_
  refine z_callv (N := MX8_unlike) (ci := 8) (nas := 2) (as := [_, _]) dL_law_837 w_441 w_438 w_439 w_440 w_1 (by decide +kernel) rfl rfl rfl (by decide) (Nat.le_of_ble_eq_true rfl) (by decide) (by decide) (ZC.mono (cMX8_unlike (hF _) (hF _) hW) ?_)
  rintro _ _ ⟨rfl, K1, J1, P1, R1, n1, s1, rfl, hW1, hc1, hp1⟩
  have hK1 := OKA_cs hW.2.2.2.1 hc1
  have hR1 := okR_cs hR hc1
  refine z_aload_n dL_law_840 rfl rfl ?_
  refine z_aload_n dL_law_841 rfl rfl ?_
  refine z_iload_n dL_law_842 rfl rfl ?_
  refine c_iconst dL_law_843 ?_
  refine c_iadd dL_law_844 ?_
  refine c_iald_old dL_law_845 (by decide) hS (by omega) (by omega) ?_
  refine z_aload_n dL_law_846 rfl rfl ?_
  refine z_iload_n dL_law_847 rfl rfl ?_
  refine c_iconst dL_law_848 ?_
  refine c_iadd dL_law_849 ?_
  refine c_iald_old dL_law_850 (by decide) hS (by omega) (by omega) ?_
  refine z_callv (N := MX9_unlike) (ci := 9) (nas := 2) (as := [_, _]) dL_law_851 w_1019 w_1016 w_1017 w_1018 w_8 (by decide +kernel) rfl rfl rfl (by decide) (Nat.le_of_ble_eq_true rfl) (by decide) (by decide) (ZC.mono (cMX9_unlike (hF _) (hF _) hK1.1) ?_)
  rintro _ _ ⟨J2, P2, rfl, rfl, hq2, hpp2⟩
  have e2 : aUnlike J1 (f (i + 1).toNat) (f (i + 2).toNat) = (aUnlike J (f (i + 1).toNat) (f (i + 2).toNat)) := (congrArg (fun z => aUnlike z (f (i + 1).toNat) (f (i + 2).toNat)) (mrg_self hc1)).symm.trans g_Unlike
  rw [e2]
  refine z_icmp_eq (tgt := 1771) dL_law_854 (by decide) (fun _ => ?_) (fun h => absurd rfl h)
  exact L1771 _ _ _ _ _ _ (WD_ref hW1 (by rw [mrg_self hc1]; exact hq2)) (okR_ref (B := J) hR1 (by rw [mrg_self hc1]; exact hq2))
set_option maxHeartbeats 4000000 in
set_option maxRecDepth 100000 in
theorem law_16 {f : Nat → Int} {LN : Nat} {i : Int} {Q0 : Option Value → ZH → Prop} (hS : g.2.2.2.2 0 = (LN, fun j => iZ (f j))) (hLN : LN ≤ 3072) (hF : ∀ j, rI (f j)) (hO : ORUL g) (hi : 0 ≤ i ∧ i + 6 ≤ (LN : Int)) (hW : WD J c Kd J Rd n s0) (hR : okR J) (L1771 : ∀ (K2 : ZK) (J2 P2 : Nat → Nat → Int) (R2 : ZR) (n2 s2 : Nat), WD J2 (c + 1) K2 J2 R2 n2 s2 → okR J2 → Z g l ML_law 1771 [some (.ref 0), some (.ref 4), some (.ref 42), some (.int (iZ i))] [] (KF K2, zi J2, zj P2, RF R2, n2, s2) Q0) : Z g l ML_law 859 [some (.ref 0), some (.ref 4), some (.ref 42), some (.int (iZ i))] [] (KF Kd, zi J, zj P, RF Rd, n, s0) Q0 := by
  refine z_aload_n dL_law_859 rfl rfl ?_
  refine z_aload_n dL_law_860 rfl rfl ?_
  refine z_iload_n dL_law_861 rfl rfl ?_
  refine c_iconst dL_law_862 ?_
  refine c_iadd dL_law_863 ?_
  refine c_iald_old dL_law_864 (by decide) hS (by omega) (by omega) ?_
  refine z_aload_n dL_law_865 rfl rfl ?_
  refine z_iload_n dL_law_866 rfl rfl ?_
  refine c_iconst dL_law_867 ?_
  refine c_iadd dL_law_868 ?_
  refine c_iald_old dL_law_869 (by decide) hS (by omega) (by omega) ?_
  refine z_callv (N := MX8_takes) (ci := 8) (nas := 2) (as := [_, _]) dL_law_870 w_495 w_492 w_493 w_494 w_1 (by decide +kernel) rfl rfl rfl (by decide) (Nat.le_of_ble_eq_true rfl) (by decide) (by decide) (ZC.mono (cMX8_takes (hF _) (hF _) hW) ?_)
  rintro _ _ ⟨rfl, K1, J1, P1, R1, n1, s1, rfl, hW1, hc1, hp1⟩
  have hK1 := OKA_cs hW.2.2.2.1 hc1
  have hR1 := okR_cs hR hc1
  refine z_aload_n dL_law_873 rfl rfl ?_
  refine z_aload_n dL_law_874 rfl rfl ?_
  refine z_iload_n dL_law_875 rfl rfl ?_
  refine c_iconst dL_law_876 ?_
  refine c_iadd dL_law_877 ?_
  refine c_iald_old dL_law_878 (by decide) hS (by omega) (by omega) ?_
  refine z_aload_n dL_law_879 rfl rfl ?_
  refine z_iload_n dL_law_880 rfl rfl ?_
  refine c_iconst dL_law_881 ?_
  refine c_iadd dL_law_882 ?_
  refine c_iald_old dL_law_883 (by decide) hS (by omega) (by omega) ?_
  refine z_callv (N := MX9_takes) (ci := 9) (nas := 2) (as := [_, _]) dL_law_884 w_1035 w_1032 w_1033 w_1034 w_8 (by decide +kernel) rfl rfl rfl (by decide) (Nat.le_of_ble_eq_true rfl) (by decide) (by decide) (ZC.mono (cMX9_takes (hF _) (hF _) hK1.1) ?_)
  rintro _ _ ⟨J2, P2, rfl, rfl, hq2, hpp2⟩
  have e2 : aTakes J1 (f (i + 1).toNat) (f (i + 2).toNat) = (aTakes J (f (i + 1).toNat) (f (i + 2).toNat)) := (congrArg (fun z => aTakes z (f (i + 1).toNat) (f (i + 2).toNat)) (mrg_self hc1)).symm.trans g_Takes
  rw [e2]
  refine z_icmp_eq (tgt := 1771) dL_law_887 (by decide) (fun _ => ?_) (fun h => absurd rfl h)
  exact L1771 _ _ _ _ _ _ (WD_ref hW1 (by rw [mrg_self hc1]; exact hq2)) (okR_ref (B := J) hR1 (by rw [mrg_self hc1]; exact hq2))
set_option maxHeartbeats 4000000 in
set_option maxRecDepth 100000 in
theorem law_17 {f : Nat → Int} {LN : Nat} {i : Int} {Q0 : Option Value → ZH → Prop} (hS : g.2.2.2.2 0 = (LN, fun j => iZ (f j))) (hLN : LN ≤ 3072) (hF : ∀ j, rI (f j)) (hO : ORUL g) (hi : 0 ≤ i ∧ i + 6 ≤ (LN : Int)) (hW : WD J c Kd J Rd n s0) (hR : okR J) (L1771 : ∀ (K2 : ZK) (J2 P2 : Nat → Nat → Int) (R2 : ZR) (n2 s2 : Nat), WD J2 (c + 1) K2 J2 R2 n2 s2 → okR J2 → Z g l ML_law 1771 [some (.ref 0), some (.ref 4), some (.ref 42), some (.int (iZ i))] [] (KF K2, zi J2, zj P2, RF R2, n2, s2) Q0) : Z g l ML_law 892 [some (.ref 0), some (.ref 4), some (.ref 42), some (.int (iZ i))] [] (KF Kd, zi J, zj P, RF Rd, n, s0) Q0 := by
  refine z_aload_n dL_law_892 rfl rfl ?_
  refine z_aload_n dL_law_893 rfl rfl ?_
  refine z_iload_n dL_law_894 rfl rfl ?_
  refine c_iconst dL_law_895 ?_
  refine c_iadd dL_law_896 ?_
  refine c_iald_old dL_law_897 (by decide) hS (by omega) (by omega) ?_
  refine z_aload_n dL_law_898 rfl rfl ?_
  refine z_iload_n dL_law_899 rfl rfl ?_
  refine c_iconst dL_law_900 ?_
  refine c_iadd dL_law_901 ?_
  refine c_iald_old dL_law_902 (by decide) hS (by omega) (by omega) ?_
  refine z_aload_n dL_law_903 rfl rfl ?_
  refine z_iload_n dL_law_904 rfl rfl ?_
  refine c_iconst dL_law_905 ?_
  refine c_iadd dL_law_906 ?_
  refine c_iald_old dL_law_907 (by decide) hS (by omega) (by omega) ?_
  refine z_callv (N := MX8_vector) (ci := 8) (nas := 3) (as := [_, _, _]) dL_law_908 w_499 w_496 w_497 w_498 w_1 (by decide +kernel) rfl rfl rfl (by decide) (Nat.le_of_ble_eq_true rfl) (by decide) (by decide) (ZC.mono (cMX8_vector (hF _) (hF _) (hF _) hW) ?_)
  rintro _ _ ⟨rfl, K1, J1, P1, R1, n1, s1, rfl, hW1, hc1, hp1⟩
  have hK1 := OKA_cs hW.2.2.2.1 hc1
  have hR1 := okR_cs hR hc1
  refine z_aload_n dL_law_911 rfl rfl ?_
  refine z_aload_n dL_law_912 rfl rfl ?_
  refine z_iload_n dL_law_913 rfl rfl ?_
  refine c_iconst dL_law_914 ?_
  refine c_iadd dL_law_915 ?_
  refine c_iald_old dL_law_916 (by decide) hS (by omega) (by omega) ?_
  refine z_aload_n dL_law_917 rfl rfl ?_
  refine z_iload_n dL_law_918 rfl rfl ?_
  refine c_iconst dL_law_919 ?_
  refine c_iadd dL_law_920 ?_
  refine c_iald_old dL_law_921 (by decide) hS (by omega) (by omega) ?_
  refine z_aload_n dL_law_922 rfl rfl ?_
  refine z_iload_n dL_law_923 rfl rfl ?_
  refine c_iconst dL_law_924 ?_
  refine c_iadd dL_law_925 ?_
  refine c_iald_old dL_law_926 (by decide) hS (by omega) (by omega) ?_
  refine z_callv (N := MX9_vector) (ci := 9) (nas := 3) (as := [_, _, _]) dL_law_927 w_1039 w_1036 w_1037 w_1038 w_8 (by decide +kernel) rfl rfl rfl (by decide) (Nat.le_of_ble_eq_true rfl) (by decide) (by decide) (ZC.mono (cMX9_vector (hF _) (hF _) (hF _) hK1.1) ?_)
  rintro _ _ ⟨J2, P2, rfl, rfl, hq2, hpp2⟩
  have e2 : aVector J1 (f (i + 1).toNat) (f (i + 2).toNat) (f (i + 3).toNat) = (aVector J (f (i + 1).toNat) (f (i + 2).toNat) (f (i + 3).toNat)) := (congrArg (fun z => aVector z (f (i + 1).toNat) (f (i + 2).toNat) (f (i + 3).toNat)) (mrg_self hc1)).symm.trans g_Vector
  rw [e2]
  refine z_icmp_eq (tgt := 1771) dL_law_930 (by decide) (fun _ => ?_) (fun h => absurd rfl h)
  exact L1771 _ _ _ _ _ _ (WD_ref hW1 (by rw [mrg_self hc1]; exact hq2)) (okR_ref (B := J) hR1 (by rw [mrg_self hc1]; exact hq2))
set_option maxHeartbeats 4000000 in
set_option maxRecDepth 100000 in
theorem law_18 {f : Nat → Int} {LN : Nat} {i : Int} {Q0 : Option Value → ZH → Prop} (hS : g.2.2.2.2 0 = (LN, fun j => iZ (f j))) (hLN : LN ≤ 3072) (hF : ∀ j, rI (f j)) (hO : ORUL g) (hi : 0 ≤ i ∧ i + 6 ≤ (LN : Int)) (hW : WD J c Kd J Rd n s0) (hR : okR J) (L1771 : ∀ (K2 : ZK) (J2 P2 : Nat → Nat → Int) (R2 : ZR) (n2 s2 : Nat), WD J2 (c + 1) K2 J2 R2 n2 s2 → okR J2 → Z g l ML_law 1771 [some (.ref 0), some (.ref 4), some (.ref 42), some (.int (iZ i))] [] (KF K2, zi J2, zj P2, RF R2, n2, s2) Q0) : Z g l ML_law 935 [some (.ref 0), some (.ref 4), some (.ref 42), some (.int (iZ i))] [] (KF Kd, zi J, zj P, RF Rd, n, s0) Q0 := by
  refine z_aload_n dL_law_935 rfl rfl ?_
  refine z_aload_n dL_law_936 rfl rfl ?_
  refine z_iload_n dL_law_937 rfl rfl ?_
  refine c_iconst dL_law_938 ?_
  refine c_iadd dL_law_939 ?_
  refine c_iald_old dL_law_940 (by decide) hS (by omega) (by omega) ?_
  refine z_callv (N := MX8_truant) (ci := 8) (nas := 1) (as := [_]) dL_law_941 w_503 w_500 w_501 w_502 w_1 (by decide +kernel) rfl rfl rfl (by decide) (Nat.le_of_ble_eq_true rfl) (by decide) (by decide) (ZC.mono (cMX8_truant (hF _) hW) ?_)
  rintro _ _ ⟨rfl, K1, J1, P1, R1, n1, s1, rfl, hW1, hc1, hp1⟩
  have hK1 := OKA_cs hW.2.2.2.1 hc1
  have hR1 := okR_cs hR hc1
  refine z_aload_n dL_law_944 rfl rfl ?_
  refine z_aload_n dL_law_945 rfl rfl ?_
  refine z_iload_n dL_law_946 rfl rfl ?_
  refine c_iconst dL_law_947 ?_
  refine c_iadd dL_law_948 ?_
  refine c_iald_old dL_law_949 (by decide) hS (by omega) (by omega) ?_
  refine z_callv (N := MX9_truant) (ci := 9) (nas := 1) (as := [_]) dL_law_950 w_1043 w_1040 w_1041 w_1042 w_8 (by decide +kernel) rfl rfl rfl (by decide) (Nat.le_of_ble_eq_true rfl) (by decide) (by decide) (ZC.mono (cMX9_truant (hF _) hK1.1) ?_)
  rintro _ _ ⟨J2, P2, rfl, rfl, hq2, hpp2⟩
  have e2 : aTruant J1 (f (i + 1).toNat) = (aTruant J (f (i + 1).toNat)) := (congrArg (fun z => aTruant z (f (i + 1).toNat)) (mrg_self hc1)).symm.trans g_Truant
  rw [e2]
  refine z_icmp_eq (tgt := 1771) dL_law_953 (by decide) (fun _ => ?_) (fun h => absurd rfl h)
  exact L1771 _ _ _ _ _ _ (WD_ref hW1 (by rw [mrg_self hc1]; exact hq2)) (okR_ref (B := J) hR1 (by rw [mrg_self hc1]; exact hq2))
set_option maxHeartbeats 4000000 in
set_option maxRecDepth 100000 in
theorem law_19 {f : Nat → Int} {LN : Nat} {i : Int} {Q0 : Option Value → ZH → Prop} (hS : g.2.2.2.2 0 = (LN, fun j => iZ (f j))) (hLN : LN ≤ 3072) (hF : ∀ j, rI (f j)) (hO : ORUL g) (hi : 0 ≤ i ∧ i + 6 ≤ (LN : Int)) (hW : WD J c Kd J Rd n s0) (hR : okR J) (L1771 : ∀ (K2 : ZK) (J2 P2 : Nat → Nat → Int) (R2 : ZR) (n2 s2 : Nat), WD J2 (c + 1) K2 J2 R2 n2 s2 → okR J2 → Z g l ML_law 1771 [some (.ref 0), some (.ref 4), some (.ref 42), some (.int (iZ i))] [] (KF K2, zi J2, zj P2, RF R2, n2, s2) Q0) : Z g l ML_law 958 [some (.ref 0), some (.ref 4), some (.ref 42), some (.int (iZ i))] [] (KF Kd, zi J, zj P, RF Rd, n, s0) Q0 := by
  refine z_aload_n dL_law_958 rfl rfl ?_
  refine z_aload_n dL_law_959 rfl rfl ?_
  refine z_iload_n dL_law_960 rfl rfl ?_
  refine c_iconst dL_law_961 ?_
  refine c_iadd dL_law_962 ?_
  refine c_iald_old dL_law_963 (by decide) hS (by omega) (by omega) ?_
  refine z_aload_n dL_law_964 rfl rfl ?_
  refine z_iload_n dL_law_965 rfl rfl ?_
  refine c_iconst dL_law_966 ?_
  refine c_iadd dL_law_967 ?_
  refine c_iald_old dL_law_968 (by decide) hS (by omega) (by omega) ?_
  refine z_aload_n dL_law_969 rfl rfl ?_
  refine z_iload_n dL_law_970 rfl rfl ?_
  refine c_iconst dL_law_971 ?_
  refine c_iadd dL_law_972 ?_
  refine c_iald_old dL_law_973 (by decide) hS (by omega) (by omega) ?_
  refine z_callv (N := MX8_exceptions) (ci := 8) (nas := 3) (as := [_, _, _]) dL_law_974 w_511 w_508 w_509 w_510 w_1 (by decide +kernel) rfl rfl rfl (by decide) (Nat.le_of_ble_eq_true rfl) (by decide) (by decide) (ZC.mono (cMX8_exceptions (hF _) (hF _) (hF _) hW) ?_)
  rintro _ _ ⟨rfl, K1, J1, P1, R1, n1, s1, rfl, hW1, hc1, hp1⟩
  have hK1 := OKA_cs hW.2.2.2.1 hc1
  have hR1 := okR_cs hR hc1
  refine z_aload_n dL_law_977 rfl rfl ?_
  refine z_aload_n dL_law_978 rfl rfl ?_
  refine z_iload_n dL_law_979 rfl rfl ?_
  refine c_iconst dL_law_980 ?_
  refine c_iadd dL_law_981 ?_
  refine c_iald_old dL_law_982 (by decide) hS (by omega) (by omega) ?_
  refine z_aload_n dL_law_983 rfl rfl ?_
  refine z_iload_n dL_law_984 rfl rfl ?_
  refine c_iconst dL_law_985 ?_
  refine c_iadd dL_law_986 ?_
  refine c_iald_old dL_law_987 (by decide) hS (by omega) (by omega) ?_
  refine z_aload_n dL_law_988 rfl rfl ?_
  refine z_iload_n dL_law_989 rfl rfl ?_
  refine c_iconst dL_law_990 ?_
  refine c_iadd dL_law_991 ?_
  refine c_iald_old dL_law_992 (by decide) hS (by omega) (by omega) ?_
  refine z_callv (N := MX9_exceptions) (ci := 9) (nas := 3) (as := [_, _, _]) dL_law_993 w_1051 w_1048 w_1049 w_1050 w_8 (by decide +kernel) rfl rfl rfl (by decide) (Nat.le_of_ble_eq_true rfl) (by decide) (by decide) (ZC.mono (cMX9_exceptions (hF _) (hF _) (hF _) hK1.1) ?_)
  rintro _ _ ⟨J2, P2, rfl, rfl, hq2, hpp2⟩
  have e2 : aExceptions J1 (f (i + 1).toNat) (f (i + 2).toNat) (f (i + 3).toNat) = (aExceptions J (f (i + 1).toNat) (f (i + 2).toNat) (f (i + 3).toNat)) := (congrArg (fun z => aExceptions z (f (i + 1).toNat) (f (i + 2).toNat) (f (i + 3).toNat)) (mrg_self hc1)).symm.trans g_Exceptions
  rw [e2]
  refine z_icmp_eq (tgt := 1771) dL_law_996 (by decide) (fun _ => ?_) (fun h => absurd rfl h)
  exact L1771 _ _ _ _ _ _ (WD_ref hW1 (by rw [mrg_self hc1]; exact hq2)) (okR_ref (B := J) hR1 (by rw [mrg_self hc1]; exact hq2))
set_option maxHeartbeats 4000000 in
set_option maxRecDepth 100000 in
theorem law_20 {f : Nat → Int} {LN : Nat} {i : Int} {Q0 : Option Value → ZH → Prop} (hS : g.2.2.2.2 0 = (LN, fun j => iZ (f j))) (hLN : LN ≤ 3072) (hF : ∀ j, rI (f j)) (hO : ORUL g) (hi : 0 ≤ i ∧ i + 6 ≤ (LN : Int)) (hW : WD J c Kd J Rd n s0) (hR : okR J) (L1771 : ∀ (K2 : ZK) (J2 P2 : Nat → Nat → Int) (R2 : ZR) (n2 s2 : Nat), WD J2 (c + 1) K2 J2 R2 n2 s2 → okR J2 → Z g l ML_law 1771 [some (.ref 0), some (.ref 4), some (.ref 42), some (.int (iZ i))] [] (KF K2, zi J2, zj P2, RF R2, n2, s2) Q0) : Z g l ML_law 1001 [some (.ref 0), some (.ref 4), some (.ref 42), some (.int (iZ i))] [] (KF Kd, zi J, zj P, RF Rd, n, s0) Q0 := by
  refine z_aload_n dL_law_1001 rfl rfl ?_
  refine z_aload_n dL_law_1002 rfl rfl ?_
  refine z_iload_n dL_law_1003 rfl rfl ?_
  refine c_iconst dL_law_1004 ?_
  refine c_iadd dL_law_1005 ?_
  refine c_iald_old dL_law_1006 (by decide) hS (by omega) (by omega) ?_
  refine z_aload_n dL_law_1007 rfl rfl ?_
  refine z_iload_n dL_law_1008 rfl rfl ?_
  refine c_iconst dL_law_1009 ?_
  refine c_iadd dL_law_1010 ?_
  refine c_iald_old dL_law_1011 (by decide) hS (by omega) (by omega) ?_
  refine z_callv (N := MX8_exception) (ci := 8) (nas := 2) (as := [_, _]) dL_law_1012 w_547 w_544 w_545 w_546 w_1 (by decide +kernel) rfl rfl rfl (by decide) (Nat.le_of_ble_eq_true rfl) (by decide) (by decide) (ZC.mono (cMX8_exception (hF _) (hF _) hW) ?_)
  rintro _ _ ⟨rfl, K1, J1, P1, R1, n1, s1, rfl, hW1, hc1, hp1⟩
  have hK1 := OKA_cs hW.2.2.2.1 hc1
  have hR1 := okR_cs hR hc1
  refine z_aload_n dL_law_1015 rfl rfl ?_
  refine z_aload_n dL_law_1016 rfl rfl ?_
  refine z_iload_n dL_law_1017 rfl rfl ?_
  refine c_iconst dL_law_1018 ?_
  refine c_iadd dL_law_1019 ?_
  refine c_iald_old dL_law_1020 (by decide) hS (by omega) (by omega) ?_
  refine z_aload_n dL_law_1021 rfl rfl ?_
  refine z_iload_n dL_law_1022 rfl rfl ?_
  refine c_iconst dL_law_1023 ?_
  refine c_iadd dL_law_1024 ?_
  refine c_iald_old dL_law_1025 (by decide) hS (by omega) (by omega) ?_
  refine z_callv (N := MX9_exception) (ci := 9) (nas := 2) (as := [_, _]) dL_law_1026 w_1067 w_1064 w_1065 w_1066 w_8 (by decide +kernel) rfl rfl rfl (by decide) (Nat.le_of_ble_eq_true rfl) (by decide) (by decide) (ZC.mono (cMX9_exception (hF _) (hF _) hK1.1) ?_)
  rintro _ _ ⟨J2, P2, rfl, rfl, hq2, hpp2⟩
  have e2 : aException J1 (f (i + 1).toNat) (f (i + 2).toNat) = (aException J (f (i + 1).toNat) (f (i + 2).toNat)) := (congrArg (fun z => aException z (f (i + 1).toNat) (f (i + 2).toNat)) (mrg_self hc1)).symm.trans g_Exception
  rw [e2]
  refine z_icmp_eq (tgt := 1771) dL_law_1029 (by decide) (fun _ => ?_) (fun h => absurd rfl h)
  exact L1771 _ _ _ _ _ _ (WD_ref hW1 (by rw [mrg_self hc1]; exact hq2)) (okR_ref (B := J) hR1 (by rw [mrg_self hc1]; exact hq2))
set_option maxHeartbeats 4000000 in
set_option maxRecDepth 100000 in
theorem law_21 {f : Nat → Int} {LN : Nat} {i : Int} {Q0 : Option Value → ZH → Prop} (hS : g.2.2.2.2 0 = (LN, fun j => iZ (f j))) (hLN : LN ≤ 3072) (hF : ∀ j, rI (f j)) (hO : ORUL g) (hi : 0 ≤ i ∧ i + 6 ≤ (LN : Int)) (hW : WD J c Kd J Rd n s0) (hR : okR J) (L1771 : ∀ (K2 : ZK) (J2 P2 : Nat → Nat → Int) (R2 : ZR) (n2 s2 : Nat), WD J2 (c + 1) K2 J2 R2 n2 s2 → okR J2 → Z g l ML_law 1771 [some (.ref 0), some (.ref 4), some (.ref 42), some (.int (iZ i))] [] (KF K2, zi J2, zj P2, RF R2, n2, s2) Q0) : Z g l ML_law 1034 [some (.ref 0), some (.ref 4), some (.ref 42), some (.int (iZ i))] [] (KF Kd, zi J, zj P, RF Rd, n, s0) Q0 := by
  refine z_aload_n dL_law_1034 rfl rfl ?_
  refine z_aload_n dL_law_1035 rfl rfl ?_
  refine z_iload_n dL_law_1036 rfl rfl ?_
  refine c_iconst dL_law_1037 ?_
  refine c_iadd dL_law_1038 ?_
  refine c_iald_old dL_law_1039 (by decide) hS (by omega) (by omega) ?_
  refine z_aload_n dL_law_1040 rfl rfl ?_
  refine z_iload_n dL_law_1041 rfl rfl ?_
  refine c_iconst dL_law_1042 ?_
  refine c_iadd dL_law_1043 ?_
  refine c_iald_old dL_law_1044 (by decide) hS (by omega) (by omega) ?_
  refine z_callv (N := MX8_residues) (ci := 8) (nas := 2) (as := [_, _]) dL_law_1045 w_551 w_548 w_549 w_550 w_1 (by decide +kernel) rfl rfl rfl (by decide) (Nat.le_of_ble_eq_true rfl) (by decide) (by decide) (ZC.mono (cMX8_residues (hF _) (hF _) hW) ?_)
  rintro _ _ ⟨rfl, K1, J1, P1, R1, n1, s1, rfl, hW1, hc1, hp1⟩
  have hK1 := OKA_cs hW.2.2.2.1 hc1
  have hR1 := okR_cs hR hc1
  refine z_aload_n dL_law_1048 rfl rfl ?_
  refine z_aload_n dL_law_1049 rfl rfl ?_
  refine z_iload_n dL_law_1050 rfl rfl ?_
  refine c_iconst dL_law_1051 ?_
  refine c_iadd dL_law_1052 ?_
  refine c_iald_old dL_law_1053 (by decide) hS (by omega) (by omega) ?_
  refine z_aload_n dL_law_1054 rfl rfl ?_
  refine z_iload_n dL_law_1055 rfl rfl ?_
  refine c_iconst dL_law_1056 ?_
  refine c_iadd dL_law_1057 ?_
  refine c_iald_old dL_law_1058 (by decide) hS (by omega) (by omega) ?_
  refine z_callv (N := MX9_residues) (ci := 9) (nas := 2) (as := [_, _]) dL_law_1059 w_1071 w_1068 w_1069 w_1070 w_8 (by decide +kernel) rfl rfl rfl (by decide) (Nat.le_of_ble_eq_true rfl) (by decide) (by decide) (ZC.mono (cMX9_residues (hF _) (hF _) hK1.1) ?_)
  rintro _ _ ⟨J2, P2, rfl, rfl, hq2, hpp2⟩
  have e2 : aResidues J1 (f (i + 1).toNat) (f (i + 2).toNat) = (aResidues J (f (i + 1).toNat) (f (i + 2).toNat)) := (congrArg (fun z => aResidues z (f (i + 1).toNat) (f (i + 2).toNat)) (mrg_self hc1)).symm.trans g_Residues
  rw [e2]
  refine z_icmp_eq (tgt := 1771) dL_law_1062 (by decide) (fun _ => ?_) (fun h => absurd rfl h)
  exact L1771 _ _ _ _ _ _ (WD_ref hW1 (by rw [mrg_self hc1]; exact hq2)) (okR_ref (B := J) hR1 (by rw [mrg_self hc1]; exact hq2))
set_option maxHeartbeats 4000000 in
set_option maxRecDepth 100000 in
theorem law_22 {f : Nat → Int} {LN : Nat} {i : Int} {Q0 : Option Value → ZH → Prop} (hS : g.2.2.2.2 0 = (LN, fun j => iZ (f j))) (hLN : LN ≤ 3072) (hF : ∀ j, rI (f j)) (hO : ORUL g) (hi : 0 ≤ i ∧ i + 6 ≤ (LN : Int)) (hW : WD J c Kd J Rd n s0) (hR : okR J) (L1771 : ∀ (K2 : ZK) (J2 P2 : Nat → Nat → Int) (R2 : ZR) (n2 s2 : Nat), WD J2 (c + 1) K2 J2 R2 n2 s2 → okR J2 → Z g l ML_law 1771 [some (.ref 0), some (.ref 4), some (.ref 42), some (.int (iZ i))] [] (KF K2, zi J2, zj P2, RF R2, n2, s2) Q0) : Z g l ML_law 1067 [some (.ref 0), some (.ref 4), some (.ref 42), some (.int (iZ i))] [] (KF Kd, zi J, zj P, RF Rd, n, s0) Q0 := by
  refine z_aload_n dL_law_1067 rfl rfl ?_
  refine z_aload_n dL_law_1068 rfl rfl ?_
  refine z_iload_n dL_law_1069 rfl rfl ?_
  refine c_iconst dL_law_1070 ?_
  refine c_iadd dL_law_1071 ?_
  refine c_iald_old dL_law_1072 (by decide) hS (by omega) (by omega) ?_
  refine z_aload_n dL_law_1073 rfl rfl ?_
  refine z_iload_n dL_law_1074 rfl rfl ?_
  refine c_iconst dL_law_1075 ?_
  refine c_iadd dL_law_1076 ?_
  refine c_iald_old dL_law_1077 (by decide) hS (by omega) (by omega) ?_
  refine z_callv (N := MX8_barred) (ci := 8) (nas := 2) (as := [_, _]) dL_law_1078 w_555 w_552 w_553 w_554 w_1 (by decide +kernel) rfl rfl rfl (by decide) (Nat.le_of_ble_eq_true rfl) (by decide) (by decide) (ZC.mono (cMX8_barred (hF _) (hF _) hW) ?_)
  rintro _ _ ⟨rfl, K1, J1, P1, R1, n1, s1, rfl, hW1, hc1, hp1⟩
  have hK1 := OKA_cs hW.2.2.2.1 hc1
  have hR1 := okR_cs hR hc1
  refine z_aload_n dL_law_1081 rfl rfl ?_
  refine z_aload_n dL_law_1082 rfl rfl ?_
  refine z_iload_n dL_law_1083 rfl rfl ?_
  refine c_iconst dL_law_1084 ?_
  refine c_iadd dL_law_1085 ?_
  refine c_iald_old dL_law_1086 (by decide) hS (by omega) (by omega) ?_
  refine z_aload_n dL_law_1087 rfl rfl ?_
  refine z_iload_n dL_law_1088 rfl rfl ?_
  refine c_iconst dL_law_1089 ?_
  refine c_iadd dL_law_1090 ?_
  refine c_iald_old dL_law_1091 (by decide) hS (by omega) (by omega) ?_
  refine z_callv (N := MX9_barred) (ci := 9) (nas := 2) (as := [_, _]) dL_law_1092 w_1076 w_1073 w_1074 w_1075 w_8 (by decide +kernel) rfl rfl rfl (by decide) (Nat.le_of_ble_eq_true rfl) (by decide) (by decide) (ZC.mono (cMX9_barred (hF _) (hF _) hK1.1) ?_)
  rintro _ _ ⟨J2, P2, rfl, rfl, hq2, hpp2⟩
  have e2 : aBarred J1 (f (i + 1).toNat) (f (i + 2).toNat) = (aBarred J (f (i + 1).toNat) (f (i + 2).toNat)) := (congrArg (fun z => aBarred z (f (i + 1).toNat) (f (i + 2).toNat)) (mrg_self hc1)).symm.trans g_Barred
  rw [e2]
  refine z_icmp_eq (tgt := 1771) dL_law_1095 (by decide) (fun _ => ?_) (fun h => absurd rfl h)
  exact L1771 _ _ _ _ _ _ (WD_ref hW1 (by rw [mrg_self hc1]; exact hq2)) (okR_ref (B := J) hR1 (by rw [mrg_self hc1]; exact hq2))
set_option maxHeartbeats 4000000 in
set_option maxRecDepth 100000 in
theorem law_23 {f : Nat → Int} {LN : Nat} {i : Int} {Q0 : Option Value → ZH → Prop} (hS : g.2.2.2.2 0 = (LN, fun j => iZ (f j))) (hLN : LN ≤ 3072) (hF : ∀ j, rI (f j)) (hO : ORUL g) (hi : 0 ≤ i ∧ i + 6 ≤ (LN : Int)) (hW : WD J c Kd J Rd n s0) (hR : okR J) (L1771 : ∀ (K2 : ZK) (J2 P2 : Nat → Nat → Int) (R2 : ZR) (n2 s2 : Nat), WD J2 (c + 1) K2 J2 R2 n2 s2 → okR J2 → Z g l ML_law 1771 [some (.ref 0), some (.ref 4), some (.ref 42), some (.int (iZ i))] [] (KF K2, zi J2, zj P2, RF R2, n2, s2) Q0) : Z g l ML_law 1100 [some (.ref 0), some (.ref 4), some (.ref 42), some (.int (iZ i))] [] (KF Kd, zi J, zj P, RF Rd, n, s0) Q0 := by
  refine z_aload_n dL_law_1100 rfl rfl ?_
  refine z_aload_n dL_law_1101 rfl rfl ?_
  refine z_iload_n dL_law_1102 rfl rfl ?_
  refine c_iconst dL_law_1103 ?_
  refine c_iadd dL_law_1104 ?_
  refine c_iald_old dL_law_1105 (by decide) hS (by omega) (by omega) ?_
  refine z_aload_n dL_law_1106 rfl rfl ?_
  refine z_iload_n dL_law_1107 rfl rfl ?_
  refine c_iconst dL_law_1108 ?_
  refine c_iadd dL_law_1109 ?_
  refine c_iald_old dL_law_1110 (by decide) hS (by omega) (by omega) ?_
  refine z_callv (N := MX8_rule) (ci := 8) (nas := 2) (as := [_, _]) dL_law_1111 w_559 w_556 w_557 w_558 w_1 (by decide +kernel) rfl rfl rfl (by decide) (Nat.le_of_ble_eq_true rfl) (by decide) (by decide) (ZC.mono (cMX8_rule (hF _) (hF _) hO hW) ?_)
  rintro _ _ ⟨rfl, K1, J1, P1, R1, n1, s1, rfl, hW1, hc1, hp1⟩
  have hK1 := OKA_cs hW.2.2.2.1 hc1
  have hR1 := okR_cs hR hc1
  refine z_aload_n dL_law_1114 rfl rfl ?_
  refine z_aload_n dL_law_1115 rfl rfl ?_
  refine z_iload_n dL_law_1116 rfl rfl ?_
  refine c_iconst dL_law_1117 ?_
  refine c_iadd dL_law_1118 ?_
  refine c_iald_old dL_law_1119 (by decide) hS (by omega) (by omega) ?_
  refine z_aload_n dL_law_1120 rfl rfl ?_
  refine z_iload_n dL_law_1121 rfl rfl ?_
  refine c_iconst dL_law_1122 ?_
  refine c_iadd dL_law_1123 ?_
  refine c_iald_old dL_law_1124 (by decide) hS (by omega) (by omega) ?_
  refine z_callv (N := MX9_rule) (ci := 9) (nas := 2) (as := [_, _]) dL_law_1125 w_1080 w_1077 w_1078 w_1079 w_8 (by decide +kernel) rfl rfl rfl (by decide) (Nat.le_of_ble_eq_true rfl) (by decide) (by decide) (ZC.mono (cMX9_rule (hF _) (hF _) hR1) ?_)
  rintro _ _ ⟨J2, P2, rfl, rfl, hq2, hpp2⟩
  refine z_icmp_eq (tgt := 1771) dL_law_1128 (by decide) (fun _ => ?_) (fun h => absurd rfl h)
  exact L1771 _ _ _ _ _ _ (WD_ref hW1 (by rw [mrg_self hc1]; exact hq2)) (okR_ref (B := J) hR1 (by rw [mrg_self hc1]; exact hq2))
set_option maxHeartbeats 4000000 in
set_option maxRecDepth 100000 in
theorem law_24 {f : Nat → Int} {LN : Nat} {i : Int} {Q0 : Option Value → ZH → Prop} (hS : g.2.2.2.2 0 = (LN, fun j => iZ (f j))) (hLN : LN ≤ 3072) (hF : ∀ j, rI (f j)) (hO : ORUL g) (hi : 0 ≤ i ∧ i + 6 ≤ (LN : Int)) (hW : WD J c Kd J Rd n s0) (hR : okR J) (L1771 : ∀ (K2 : ZK) (J2 P2 : Nat → Nat → Int) (R2 : ZR) (n2 s2 : Nat), WD J2 (c + 1) K2 J2 R2 n2 s2 → okR J2 → Z g l ML_law 1771 [some (.ref 0), some (.ref 4), some (.ref 42), some (.int (iZ i))] [] (KF K2, zi J2, zj P2, RF R2, n2, s2) Q0) : Z g l ML_law 1133 [some (.ref 0), some (.ref 4), some (.ref 42), some (.int (iZ i))] [] (KF Kd, zi J, zj P, RF Rd, n, s0) Q0 := by
  refine z_aload_n dL_law_1133 rfl rfl ?_
  refine z_aload_n dL_law_1134 rfl rfl ?_
  refine z_iload_n dL_law_1135 rfl rfl ?_
  refine c_iconst dL_law_1136 ?_
  refine c_iadd dL_law_1137 ?_
  refine c_iald_old dL_law_1138 (by decide) hS (by omega) (by omega) ?_
  refine z_aload_n dL_law_1139 rfl rfl ?_
  refine z_iload_n dL_law_1140 rfl rfl ?_
  refine c_iconst dL_law_1141 ?_
  refine c_iadd dL_law_1142 ?_
  refine c_iald_old dL_law_1143 (by decide) hS (by omega) (by omega) ?_
  refine z_callv (N := MX8_claim) (ci := 8) (nas := 2) (as := [_, _]) dL_law_1144 w_575 w_572 w_573 w_574 w_1 (by decide +kernel) rfl rfl rfl (by decide) (Nat.le_of_ble_eq_true rfl) (by decide) (by decide) (ZC.mono (cMX8_claim (hF _) (hF _) hO hW) ?_)
  rintro _ _ ⟨rfl, K1, J1, P1, R1, n1, s1, rfl, hW1, hc1, hp1⟩
  have hK1 := OKA_cs hW.2.2.2.1 hc1
  have hR1 := okR_cs hR hc1
  refine z_aload_n dL_law_1147 rfl rfl ?_
  refine z_aload_n dL_law_1148 rfl rfl ?_
  refine z_iload_n dL_law_1149 rfl rfl ?_
  refine c_iconst dL_law_1150 ?_
  refine c_iadd dL_law_1151 ?_
  refine c_iald_old dL_law_1152 (by decide) hS (by omega) (by omega) ?_
  refine z_aload_n dL_law_1153 rfl rfl ?_
  refine z_iload_n dL_law_1154 rfl rfl ?_
  refine c_iconst dL_law_1155 ?_
  refine c_iadd dL_law_1156 ?_
  refine c_iald_old dL_law_1157 (by decide) hS (by omega) (by omega) ?_
  refine z_callv (N := MX9_claim) (ci := 9) (nas := 2) (as := [_, _]) dL_law_1158 w_1094 w_1091 w_1092 w_1093 w_8 (by decide +kernel) rfl rfl rfl (by decide) (Nat.le_of_ble_eq_true rfl) (by decide) (by decide) (ZC.mono (cMX9_claim (hF _) (hF _) hK1.1 hR1) ?_)
  rintro _ _ ⟨J2, P2, rfl, rfl, hq2, hpp2⟩
  have e2 : aClaim J1 (f (i + 1).toNat) (f (i + 2).toNat) = (aClaim J (f (i + 1).toNat) (f (i + 2).toNat)) := (congrArg (fun z => aClaim z (f (i + 1).toNat) (f (i + 2).toNat)) (mrg_self hc1)).symm.trans g_Claim
  rw [e2]
  refine z_icmp_eq (tgt := 1771) dL_law_1161 (by decide) (fun _ => ?_) (fun h => absurd rfl h)
  exact L1771 _ _ _ _ _ _ (WD_ref hW1 (by rw [mrg_self hc1]; exact hq2)) (okR_ref (B := J) hR1 (by rw [mrg_self hc1]; exact hq2))
set_option maxHeartbeats 4000000 in
set_option maxRecDepth 100000 in
theorem law_25 {f : Nat → Int} {LN : Nat} {i : Int} {Q0 : Option Value → ZH → Prop} (hS : g.2.2.2.2 0 = (LN, fun j => iZ (f j))) (hLN : LN ≤ 3072) (hF : ∀ j, rI (f j)) (hO : ORUL g) (hi : 0 ≤ i ∧ i + 6 ≤ (LN : Int)) (hW : WD J c Kd J Rd n s0) (hR : okR J) (L1771 : ∀ (K2 : ZK) (J2 P2 : Nat → Nat → Int) (R2 : ZR) (n2 s2 : Nat), WD J2 (c + 1) K2 J2 R2 n2 s2 → okR J2 → Z g l ML_law 1771 [some (.ref 0), some (.ref 4), some (.ref 42), some (.int (iZ i))] [] (KF K2, zi J2, zj P2, RF R2, n2, s2) Q0) : Z g l ML_law 1166 [some (.ref 0), some (.ref 4), some (.ref 42), some (.int (iZ i))] [] (KF Kd, zi J, zj P, RF Rd, n, s0) Q0 := by
  refine z_aload_n dL_law_1166 rfl rfl ?_
  refine z_aload_n dL_law_1167 rfl rfl ?_
  refine z_iload_n dL_law_1168 rfl rfl ?_
  refine c_iconst dL_law_1169 ?_
  refine c_iadd dL_law_1170 ?_
  refine c_iald_old dL_law_1171 (by decide) hS (by omega) (by omega) ?_
  refine z_aload_n dL_law_1172 rfl rfl ?_
  refine z_iload_n dL_law_1173 rfl rfl ?_
  refine c_iconst dL_law_1174 ?_
  refine c_iadd dL_law_1175 ?_
  refine c_iald_old dL_law_1176 (by decide) hS (by omega) (by omega) ?_
  refine z_aload_n dL_law_1177 rfl rfl ?_
  refine z_iload_n dL_law_1178 rfl rfl ?_
  refine c_iconst dL_law_1179 ?_
  refine c_iadd dL_law_1180 ?_
  refine c_iald_old dL_law_1181 (by decide) hS (by omega) (by omega) ?_
  refine z_callv (N := MX8_lacks) (ci := 8) (nas := 3) (as := [_, _, _]) dL_law_1182 w_585 w_582 w_583 w_584 w_1 (by decide +kernel) rfl rfl rfl (by decide) (Nat.le_of_ble_eq_true rfl) (by decide) (by decide) (ZC.mono (cMX8_lacks (hF _) (hF _) (hF _) hO hW) ?_)
  rintro _ _ ⟨rfl, K1, J1, P1, R1, n1, s1, rfl, hW1, hc1, hp1⟩
  have hK1 := OKA_cs hW.2.2.2.1 hc1
  have hR1 := okR_cs hR hc1
  refine z_aload_n dL_law_1185 rfl rfl ?_
  refine z_aload_n dL_law_1186 rfl rfl ?_
  refine z_iload_n dL_law_1187 rfl rfl ?_
  refine c_iconst dL_law_1188 ?_
  refine c_iadd dL_law_1189 ?_
  refine c_iald_old dL_law_1190 (by decide) hS (by omega) (by omega) ?_
  refine z_aload_n dL_law_1191 rfl rfl ?_
  refine z_iload_n dL_law_1192 rfl rfl ?_
  refine c_iconst dL_law_1193 ?_
  refine c_iadd dL_law_1194 ?_
  refine c_iald_old dL_law_1195 (by decide) hS (by omega) (by omega) ?_
  refine z_aload_n dL_law_1196 rfl rfl ?_
  refine z_iload_n dL_law_1197 rfl rfl ?_
  refine c_iconst dL_law_1198 ?_
  refine c_iadd dL_law_1199 ?_
  refine c_iald_old dL_law_1200 (by decide) hS (by omega) (by omega) ?_
  refine z_callv (N := MX9_lacks) (ci := 9) (nas := 3) (as := [_, _, _]) dL_law_1201 w_1102 w_1099 w_1100 w_1101 w_8 (by decide +kernel) rfl rfl rfl (by decide) (Nat.le_of_ble_eq_true rfl) (by decide) (by decide) (ZC.mono (cMX9_lacks (hF _) (hF _) (hF _) hK1.1 hR1) ?_)
  rintro _ _ ⟨J2, P2, rfl, rfl, hq2, hpp2⟩
  have e2 : aLacks J1 (f (i + 1).toNat) (f (i + 2).toNat) (f (i + 3).toNat) = (aLacks J (f (i + 1).toNat) (f (i + 2).toNat) (f (i + 3).toNat)) := (congrArg (fun z => aLacks z (f (i + 1).toNat) (f (i + 2).toNat) (f (i + 3).toNat)) (mrg_self hc1)).symm.trans g_Lacks
  rw [e2]
  refine z_icmp_eq (tgt := 1771) dL_law_1204 (by decide) (fun _ => ?_) (fun h => absurd rfl h)
  exact L1771 _ _ _ _ _ _ (WD_ref hW1 (by rw [mrg_self hc1]; exact hq2)) (okR_ref (B := J) hR1 (by rw [mrg_self hc1]; exact hq2))
set_option maxHeartbeats 4000000 in
set_option maxRecDepth 100000 in
theorem law_26 {f : Nat → Int} {LN : Nat} {i : Int} {Q0 : Option Value → ZH → Prop} (hS : g.2.2.2.2 0 = (LN, fun j => iZ (f j))) (hLN : LN ≤ 3072) (hF : ∀ j, rI (f j)) (hO : ORUL g) (hi : 0 ≤ i ∧ i + 6 ≤ (LN : Int)) (hW : WD J c Kd J Rd n s0) (hR : okR J) (L1771 : ∀ (K2 : ZK) (J2 P2 : Nat → Nat → Int) (R2 : ZR) (n2 s2 : Nat), WD J2 (c + 1) K2 J2 R2 n2 s2 → okR J2 → Z g l ML_law 1771 [some (.ref 0), some (.ref 4), some (.ref 42), some (.int (iZ i))] [] (KF K2, zi J2, zj P2, RF R2, n2, s2) Q0) : Z g l ML_law 1209 [some (.ref 0), some (.ref 4), some (.ref 42), some (.int (iZ i))] [] (KF Kd, zi J, zj P, RF Rd, n, s0) Q0 := by
  refine z_aload_n dL_law_1209 rfl rfl ?_
  refine z_aload_n dL_law_1210 rfl rfl ?_
  refine z_iload_n dL_law_1211 rfl rfl ?_
  refine c_iconst dL_law_1212 ?_
  refine c_iadd dL_law_1213 ?_
  refine c_iald_old dL_law_1214 (by decide) hS (by omega) (by omega) ?_
  refine z_aload_n dL_law_1215 rfl rfl ?_
  refine z_iload_n dL_law_1216 rfl rfl ?_
  refine c_iconst dL_law_1217 ?_
  refine c_iadd dL_law_1218 ?_
  refine c_iald_old dL_law_1219 (by decide) hS (by omega) (by omega) ?_
  refine z_aload_n dL_law_1220 rfl rfl ?_
  refine z_iload_n dL_law_1221 rfl rfl ?_
  refine c_iconst dL_law_1222 ?_
  refine c_iadd dL_law_1223 ?_
  refine c_iald_old dL_law_1224 (by decide) hS (by omega) (by omega) ?_
  refine z_aload_n dL_law_1225 rfl rfl ?_
  refine z_iload_n dL_law_1226 rfl rfl ?_
  refine c_iconst dL_law_1227 ?_
  refine c_iadd dL_law_1228 ?_
  refine c_iald_old dL_law_1229 (by decide) hS (by omega) (by omega) ?_
  refine z_callv (N := MX8_certify) (ci := 8) (nas := 4) (as := [_, _, _, _]) dL_law_1230 w_589 w_586 w_587 w_588 w_1 (by decide +kernel) rfl rfl rfl (by decide) (Nat.le_of_ble_eq_true rfl) (by decide) (by decide) (ZC.mono (cMX8_certify (hF _) (hF _) (hF _) (hF _) hO hW) ?_)
  rintro _ _ ⟨rfl, K1, J1, P1, R1, n1, s1, rfl, hW1, hc1, hp1⟩
  have hK1 := OKA_cs hW.2.2.2.1 hc1
  have hR1 := okR_cs hR hc1
  refine z_aload_n dL_law_1233 rfl rfl ?_
  refine z_aload_n dL_law_1234 rfl rfl ?_
  refine z_iload_n dL_law_1235 rfl rfl ?_
  refine c_iconst dL_law_1236 ?_
  refine c_iadd dL_law_1237 ?_
  refine c_iald_old dL_law_1238 (by decide) hS (by omega) (by omega) ?_
  refine z_aload_n dL_law_1239 rfl rfl ?_
  refine z_iload_n dL_law_1240 rfl rfl ?_
  refine c_iconst dL_law_1241 ?_
  refine c_iadd dL_law_1242 ?_
  refine c_iald_old dL_law_1243 (by decide) hS (by omega) (by omega) ?_
  refine z_aload_n dL_law_1244 rfl rfl ?_
  refine z_iload_n dL_law_1245 rfl rfl ?_
  refine c_iconst dL_law_1246 ?_
  refine c_iadd dL_law_1247 ?_
  refine c_iald_old dL_law_1248 (by decide) hS (by omega) (by omega) ?_
  refine z_aload_n dL_law_1249 rfl rfl ?_
  refine z_iload_n dL_law_1250 rfl rfl ?_
  refine c_iconst dL_law_1251 ?_
  refine c_iadd dL_law_1252 ?_
  refine c_iald_old dL_law_1253 (by decide) hS (by omega) (by omega) ?_
  refine z_callv (N := MX9_certify) (ci := 9) (nas := 4) (as := [_, _, _, _]) dL_law_1254 w_1106 w_1103 w_1104 w_1105 w_8 (by decide +kernel) rfl rfl rfl (by decide) (Nat.le_of_ble_eq_true rfl) (by decide) (by decide) (ZC.mono (cMX9_certify (hF _) (hF _) (hF _) (hF _) hK1.1 hR1 hK1.2.2) ?_)
  rintro _ _ ⟨J2, P2, rfl, rfl, hq2, hpp2⟩
  have e2 : aCertify J1 (f (i + 1).toNat) (f (i + 2).toNat) (f (i + 3).toNat) (f (i + 4).toNat) = mp J1 (aCertify J (f (i + 1).toNat) (f (i + 2).toNat) (f (i + 3).toNat) (f (i + 4).toNat)) := (congrArg (fun z => aCertify z (f (i + 1).toNat) (f (i + 2).toNat) (f (i + 3).toNat) (f (i + 4).toNat)) (mrg_self hc1)).symm.trans g_Certify
  rw [e2] at hq2 ⊢
  refine z_icmp_eq (tgt := 1771) dL_law_1257 (by decide) (fun _ => ?_) (fun h => absurd rfl h)
  exact L1771 _ _ _ _ _ _ (WD_ref hW1 hq2) (okR_ref hR1 hq2)
set_option maxHeartbeats 4000000 in
set_option maxRecDepth 100000 in
theorem law_27 {f : Nat → Int} {LN : Nat} {i : Int} {Q0 : Option Value → ZH → Prop} (hS : g.2.2.2.2 0 = (LN, fun j => iZ (f j))) (hLN : LN ≤ 3072) (hF : ∀ j, rI (f j)) (hO : ORUL g) (hi : 0 ≤ i ∧ i + 6 ≤ (LN : Int)) (hW : WD J c Kd J Rd n s0) (hR : okR J) (L1771 : ∀ (K2 : ZK) (J2 P2 : Nat → Nat → Int) (R2 : ZR) (n2 s2 : Nat), WD J2 (c + 1) K2 J2 R2 n2 s2 → okR J2 → Z g l ML_law 1771 [some (.ref 0), some (.ref 4), some (.ref 42), some (.int (iZ i))] [] (KF K2, zi J2, zj P2, RF R2, n2, s2) Q0) : Z g l ML_law 1262 [some (.ref 0), some (.ref 4), some (.ref 42), some (.int (iZ i))] [] (KF Kd, zi J, zj P, RF Rd, n, s0) Q0 := by
  refine z_aload_n dL_law_1262 rfl rfl ?_
  refine z_aload_n dL_law_1263 rfl rfl ?_
  refine z_iload_n dL_law_1264 rfl rfl ?_
  refine c_iconst dL_law_1265 ?_
  refine c_iadd dL_law_1266 ?_
  refine c_iald_old dL_law_1267 (by decide) hS (by omega) (by omega) ?_
  refine z_callv (N := MX8_children) (ci := 8) (nas := 1) (as := [_]) dL_law_1268 w_593 w_590 w_591 w_592 w_1 (by decide +kernel) rfl rfl rfl (by decide) (Nat.le_of_ble_eq_true rfl) (by decide) (by decide) (ZC.mono (cMX8_children (hF _) hW) ?_)
  rintro _ _ ⟨rfl, K1, J1, P1, R1, n1, s1, rfl, hW1, hc1, hp1⟩
  have hK1 := OKA_cs hW.2.2.2.1 hc1
  have hR1 := okR_cs hR hc1
  refine z_aload_n dL_law_1271 rfl rfl ?_
  refine z_aload_n dL_law_1272 rfl rfl ?_
  refine z_iload_n dL_law_1273 rfl rfl ?_
  refine c_iconst dL_law_1274 ?_
  refine c_iadd dL_law_1275 ?_
  refine c_iald_old dL_law_1276 (by decide) hS (by omega) (by omega) ?_
  refine z_callv (N := MX9_children) (ci := 9) (nas := 1) (as := [_]) dL_law_1277 w_1114 w_1111 w_1112 w_1113 w_8 (by decide +kernel) rfl rfl rfl (by decide) (Nat.le_of_ble_eq_true rfl) (by decide) (by decide) (ZC.mono (cMX9_children (hF _) hK1.1) ?_)
  rintro _ _ ⟨J2, P2, rfl, rfl, hq2, hpp2⟩
  have e2 : aChildren J1 (f (i + 1).toNat) = (aChildren J (f (i + 1).toNat)) := (congrArg (fun z => aChildren z (f (i + 1).toNat)) (mrg_self hc1)).symm.trans g_Children
  rw [e2]
  refine z_icmp_eq (tgt := 1771) dL_law_1280 (by decide) (fun _ => ?_) (fun h => absurd rfl h)
  exact L1771 _ _ _ _ _ _ (WD_ref hW1 (by rw [mrg_self hc1]; exact hq2)) (okR_ref (B := J) hR1 (by rw [mrg_self hc1]; exact hq2))
set_option maxHeartbeats 4000000 in
set_option maxRecDepth 100000 in
theorem law_28 {f : Nat → Int} {LN : Nat} {i : Int} {Q0 : Option Value → ZH → Prop} (hS : g.2.2.2.2 0 = (LN, fun j => iZ (f j))) (hLN : LN ≤ 3072) (hF : ∀ j, rI (f j)) (hO : ORUL g) (hi : 0 ≤ i ∧ i + 6 ≤ (LN : Int)) (hW : WD J c Kd J Rd n s0) (hR : okR J) (L1771 : ∀ (K2 : ZK) (J2 P2 : Nat → Nat → Int) (R2 : ZR) (n2 s2 : Nat), WD J2 (c + 1) K2 J2 R2 n2 s2 → okR J2 → Z g l ML_law 1771 [some (.ref 0), some (.ref 4), some (.ref 42), some (.int (iZ i))] [] (KF K2, zi J2, zj P2, RF R2, n2, s2) Q0) : Z g l ML_law 1285 [some (.ref 0), some (.ref 4), some (.ref 42), some (.int (iZ i))] [] (KF Kd, zi J, zj P, RF Rd, n, s0) Q0 := by
  refine z_aload_n dL_law_1285 rfl rfl ?_
  refine z_aload_n dL_law_1286 rfl rfl ?_
  refine z_iload_n dL_law_1287 rfl rfl ?_
  refine c_iconst dL_law_1288 ?_
  refine c_iadd dL_law_1289 ?_
  refine c_iald_old dL_law_1290 (by decide) hS (by omega) (by omega) ?_
  refine z_aload_n dL_law_1291 rfl rfl ?_
  refine z_iload_n dL_law_1292 rfl rfl ?_
  refine c_iconst dL_law_1293 ?_
  refine c_iadd dL_law_1294 ?_
  refine c_iald_old dL_law_1295 (by decide) hS (by omega) (by omega) ?_
  refine z_aload_n dL_law_1296 rfl rfl ?_
  refine z_iload_n dL_law_1297 rfl rfl ?_
  refine c_iconst dL_law_1298 ?_
  refine c_iadd dL_law_1299 ?_
  refine c_iald_old dL_law_1300 (by decide) hS (by omega) (by omega) ?_
  refine z_callv (N := MX8_child) (ci := 8) (nas := 3) (as := [_, _, _]) dL_law_1301 w_632 w_629 w_630 w_631 w_1 (by decide +kernel) rfl rfl rfl (by decide) (Nat.le_of_ble_eq_true rfl) (by decide) (by decide) (ZC.mono (cMX8_child (hF _) (hF _) (hF _) hW) ?_)
  rintro _ _ ⟨rfl, K1, J1, P1, R1, n1, s1, rfl, hW1, hc1, hp1⟩
  have hK1 := OKA_cs hW.2.2.2.1 hc1
  have hR1 := okR_cs hR hc1
  refine z_aload_n dL_law_1304 rfl rfl ?_
  refine z_aload_n dL_law_1305 rfl rfl ?_
  refine z_iload_n dL_law_1306 rfl rfl ?_
  refine c_iconst dL_law_1307 ?_
  refine c_iadd dL_law_1308 ?_
  refine c_iald_old dL_law_1309 (by decide) hS (by omega) (by omega) ?_
  refine z_aload_n dL_law_1310 rfl rfl ?_
  refine z_iload_n dL_law_1311 rfl rfl ?_
  refine c_iconst dL_law_1312 ?_
  refine c_iadd dL_law_1313 ?_
  refine c_iald_old dL_law_1314 (by decide) hS (by omega) (by omega) ?_
  refine z_aload_n dL_law_1315 rfl rfl ?_
  refine z_iload_n dL_law_1316 rfl rfl ?_
  refine c_iconst dL_law_1317 ?_
  refine c_iadd dL_law_1318 ?_
  refine c_iald_old dL_law_1319 (by decide) hS (by omega) (by omega) ?_
  refine z_callv (N := MX9_child) (ci := 9) (nas := 3) (as := [_, _, _]) dL_law_1320 w_1130 w_1127 w_1128 w_1129 w_8 (by decide +kernel) rfl rfl rfl (by decide) (Nat.le_of_ble_eq_true rfl) (by decide) (by decide) (ZC.mono (cMX9_child (hF _) (hF _) (hF _) hK1.1) ?_)
  rintro _ _ ⟨J2, P2, rfl, rfl, hq2, hpp2⟩
  have e2 : aChild J1 (f (i + 1).toNat) (f (i + 2).toNat) (f (i + 3).toNat) = mp J1 (aChild J (f (i + 1).toNat) (f (i + 2).toNat) (f (i + 3).toNat)) := (congrArg (fun z => aChild z (f (i + 1).toNat) (f (i + 2).toNat) (f (i + 3).toNat)) (mrg_self hc1)).symm.trans g_Child
  rw [e2] at hq2 ⊢
  refine z_icmp_eq (tgt := 1771) dL_law_1323 (by decide) (fun _ => ?_) (fun h => absurd rfl h)
  exact L1771 _ _ _ _ _ _ (WD_ref hW1 hq2) (okR_ref hR1 hq2)
set_option maxHeartbeats 4000000 in
set_option maxRecDepth 100000 in
theorem law_29 {f : Nat → Int} {LN : Nat} {i : Int} {Q0 : Option Value → ZH → Prop} (hS : g.2.2.2.2 0 = (LN, fun j => iZ (f j))) (hLN : LN ≤ 3072) (hF : ∀ j, rI (f j)) (hO : ORUL g) (hi : 0 ≤ i ∧ i + 6 ≤ (LN : Int)) (hW : WD J c Kd J Rd n s0) (hR : okR J) (L1771 : ∀ (K2 : ZK) (J2 P2 : Nat → Nat → Int) (R2 : ZR) (n2 s2 : Nat), WD J2 (c + 1) K2 J2 R2 n2 s2 → okR J2 → Z g l ML_law 1771 [some (.ref 0), some (.ref 4), some (.ref 42), some (.int (iZ i))] [] (KF K2, zi J2, zj P2, RF R2, n2, s2) Q0) : Z g l ML_law 1328 [some (.ref 0), some (.ref 4), some (.ref 42), some (.int (iZ i))] [] (KF Kd, zi J, zj P, RF Rd, n, s0) Q0 := by
  refine z_aload_n dL_law_1328 rfl rfl ?_
  refine z_aload_n dL_law_1329 rfl rfl ?_
  refine z_iload_n dL_law_1330 rfl rfl ?_
  refine c_iconst dL_law_1331 ?_
  refine c_iadd dL_law_1332 ?_
  refine c_iald_old dL_law_1333 (by decide) hS (by omega) (by omega) ?_
  refine z_aload_n dL_law_1334 rfl rfl ?_
  refine z_iload_n dL_law_1335 rfl rfl ?_
  refine c_iconst dL_law_1336 ?_
  refine c_iadd dL_law_1337 ?_
  refine c_iald_old dL_law_1338 (by decide) hS (by omega) (by omega) ?_
  refine z_aload_n dL_law_1339 rfl rfl ?_
  refine z_iload_n dL_law_1340 rfl rfl ?_
  refine c_iconst dL_law_1341 ?_
  refine c_iadd dL_law_1342 ?_
  refine c_iald_old dL_law_1343 (by decide) hS (by omega) (by omega) ?_
  refine z_callv (N := MX8_next) (ci := 8) (nas := 3) (as := [_, _, _]) dL_law_1344 w_640 w_637 w_638 w_639 w_1 (by decide +kernel) rfl rfl rfl (by decide) (Nat.le_of_ble_eq_true rfl) (by decide) (by decide) (ZC.mono (cMX8_next (hF _) (hF _) (hF _) hO hW) ?_)
  rintro _ _ ⟨rfl, K1, J1, P1, R1, n1, s1, rfl, hW1, hc1, hp1⟩
  have hK1 := OKA_cs hW.2.2.2.1 hc1
  have hR1 := okR_cs hR hc1
  refine z_aload_n dL_law_1347 rfl rfl ?_
  refine z_aload_n dL_law_1348 rfl rfl ?_
  refine z_iload_n dL_law_1349 rfl rfl ?_
  refine c_iconst dL_law_1350 ?_
  refine c_iadd dL_law_1351 ?_
  refine c_iald_old dL_law_1352 (by decide) hS (by omega) (by omega) ?_
  refine z_aload_n dL_law_1353 rfl rfl ?_
  refine z_iload_n dL_law_1354 rfl rfl ?_
  refine c_iconst dL_law_1355 ?_
  refine c_iadd dL_law_1356 ?_
  refine c_iald_old dL_law_1357 (by decide) hS (by omega) (by omega) ?_
  refine z_aload_n dL_law_1358 rfl rfl ?_
  refine z_iload_n dL_law_1359 rfl rfl ?_
  refine c_iconst dL_law_1360 ?_
  refine c_iadd dL_law_1361 ?_
  refine c_iald_old dL_law_1362 (by decide) hS (by omega) (by omega) ?_
  refine z_callv (N := MX9_next) (ci := 9) (nas := 3) (as := [_, _, _]) dL_law_1363 w_1138 w_1135 w_1136 w_1137 w_8 (by decide +kernel) rfl rfl rfl (by decide) (Nat.le_of_ble_eq_true rfl) (by decide) (by decide) (ZC.mono (cMX9_next (hF _) (hF _) (hF _) hK1.1 hR1) ?_)
  rintro _ _ ⟨J2, P2, rfl, rfl, hq2, hpp2⟩
  have e2 : aNext J1 (f (i + 1).toNat) (f (i + 2).toNat) (f (i + 3).toNat) = (aNext J (f (i + 1).toNat) (f (i + 2).toNat) (f (i + 3).toNat)) := (congrArg (fun z => aNext z (f (i + 1).toNat) (f (i + 2).toNat) (f (i + 3).toNat)) (mrg_self hc1)).symm.trans g_Next
  rw [e2]
  refine z_icmp_eq (tgt := 1771) dL_law_1366 (by decide) (fun _ => ?_) (fun h => absurd rfl h)
  exact L1771 _ _ _ _ _ _ (WD_ref hW1 (by rw [mrg_self hc1]; exact hq2)) (okR_ref (B := J) hR1 (by rw [mrg_self hc1]; exact hq2))
set_option maxHeartbeats 4000000 in
set_option maxRecDepth 100000 in
theorem law_30 {f : Nat → Int} {LN : Nat} {i : Int} {Q0 : Option Value → ZH → Prop} (hS : g.2.2.2.2 0 = (LN, fun j => iZ (f j))) (hLN : LN ≤ 3072) (hF : ∀ j, rI (f j)) (hO : ORUL g) (hi : 0 ≤ i ∧ i + 6 ≤ (LN : Int)) (hW : WD J c Kd J Rd n s0) (hR : okR J) (L1771 : ∀ (K2 : ZK) (J2 P2 : Nat → Nat → Int) (R2 : ZR) (n2 s2 : Nat), WD J2 (c + 1) K2 J2 R2 n2 s2 → okR J2 → Z g l ML_law 1771 [some (.ref 0), some (.ref 4), some (.ref 42), some (.int (iZ i))] [] (KF K2, zi J2, zj P2, RF R2, n2, s2) Q0) : Z g l ML_law 1371 [some (.ref 0), some (.ref 4), some (.ref 42), some (.int (iZ i))] [] (KF Kd, zi J, zj P, RF Rd, n, s0) Q0 := by
  refine z_aload_n dL_law_1371 rfl rfl ?_
  refine z_aload_n dL_law_1372 rfl rfl ?_
  refine z_iload_n dL_law_1373 rfl rfl ?_
  refine c_iconst dL_law_1374 ?_
  refine c_iadd dL_law_1375 ?_
  refine c_iald_old dL_law_1376 (by decide) hS (by omega) (by omega) ?_
  refine z_callv (N := MX8_plant) (ci := 8) (nas := 1) (as := [_]) dL_law_1377 w_653 w_650 w_651 w_652 w_1 (by decide +kernel) rfl rfl rfl (by decide) (Nat.le_of_ble_eq_true rfl) (by decide) (by decide) (ZC.mono (cMX8_plant (hF _) hW) ?_)
  rintro _ _ ⟨rfl, K1, J1, P1, R1, n1, s1, rfl, hW1, hc1, hp1⟩
  have hK1 := OKA_cs hW.2.2.2.1 hc1
  have hR1 := okR_cs hR hc1
  refine z_aload_n dL_law_1380 rfl rfl ?_
  refine z_aload_n dL_law_1381 rfl rfl ?_
  refine z_iload_n dL_law_1382 rfl rfl ?_
  refine c_iconst dL_law_1383 ?_
  refine c_iadd dL_law_1384 ?_
  refine c_iald_old dL_law_1385 (by decide) hS (by omega) (by omega) ?_
  refine z_callv (N := MX9_plant) (ci := 9) (nas := 1) (as := [_]) dL_law_1386 w_1146 w_1143 w_1144 w_1145 w_8 (by decide +kernel) rfl rfl rfl (by decide) (Nat.le_of_ble_eq_true rfl) (by decide) (by decide) (ZC.mono (cMX9_plant (hF _) hK1.1) ?_)
  rintro _ _ ⟨J2, P2, rfl, rfl, hq2, hpp2⟩
  have e2 : aPlant J1 (f (i + 1).toNat) = mp J1 (aPlant J (f (i + 1).toNat)) := (congrArg (fun z => aPlant z (f (i + 1).toNat)) (mrg_self hc1)).symm.trans g_Plant
  rw [e2] at hq2 ⊢
  refine z_icmp_eq (tgt := 1771) dL_law_1389 (by decide) (fun _ => ?_) (fun h => absurd rfl h)
  exact L1771 _ _ _ _ _ _ (WD_ref hW1 hq2) (okR_ref hR1 hq2)
set_option maxHeartbeats 4000000 in
set_option maxRecDepth 100000 in
theorem law_31 {f : Nat → Int} {LN : Nat} {i : Int} {Q0 : Option Value → ZH → Prop} (hS : g.2.2.2.2 0 = (LN, fun j => iZ (f j))) (hLN : LN ≤ 3072) (hF : ∀ j, rI (f j)) (hO : ORUL g) (hi : 0 ≤ i ∧ i + 6 ≤ (LN : Int)) (hW : WD J c Kd J Rd n s0) (hR : okR J) (L1771 : ∀ (K2 : ZK) (J2 P2 : Nat → Nat → Int) (R2 : ZR) (n2 s2 : Nat), WD J2 (c + 1) K2 J2 R2 n2 s2 → okR J2 → Z g l ML_law 1771 [some (.ref 0), some (.ref 4), some (.ref 42), some (.int (iZ i))] [] (KF K2, zi J2, zj P2, RF R2, n2, s2) Q0) : Z g l ML_law 1394 [some (.ref 0), some (.ref 4), some (.ref 42), some (.int (iZ i))] [] (KF Kd, zi J, zj P, RF Rd, n, s0) Q0 := by
  refine z_aload_n dL_law_1394 rfl rfl ?_
  refine z_aload_n dL_law_1395 rfl rfl ?_
  refine z_iload_n dL_law_1396 rfl rfl ?_
  refine c_iconst dL_law_1397 ?_
  refine c_iadd dL_law_1398 ?_
  refine c_iald_old dL_law_1399 (by decide) hS (by omega) (by omega) ?_
  refine z_aload_n dL_law_1400 rfl rfl ?_
  refine z_iload_n dL_law_1401 rfl rfl ?_
  refine c_iconst dL_law_1402 ?_
  refine c_iadd dL_law_1403 ?_
  refine c_iald_old dL_law_1404 (by decide) hS (by omega) (by omega) ?_
  refine z_callv (N := MX8_branch) (ci := 8) (nas := 2) (as := [_, _]) dL_law_1405 w_665 w_662 w_663 w_664 w_1 (by decide +kernel) rfl rfl rfl (by decide) (Nat.le_of_ble_eq_true rfl) (by decide) (by decide) (ZC.mono (cMX8_branch (hF _) (hF _) hW) ?_)
  rintro _ _ ⟨rfl, K1, J1, P1, R1, n1, s1, rfl, hW1, hc1, hp1⟩
  have hK1 := OKA_cs hW.2.2.2.1 hc1
  have hR1 := okR_cs hR hc1
  refine z_aload_n dL_law_1408 rfl rfl ?_
  refine z_aload_n dL_law_1409 rfl rfl ?_
  refine z_iload_n dL_law_1410 rfl rfl ?_
  refine c_iconst dL_law_1411 ?_
  refine c_iadd dL_law_1412 ?_
  refine c_iald_old dL_law_1413 (by decide) hS (by omega) (by omega) ?_
  refine z_aload_n dL_law_1414 rfl rfl ?_
  refine z_iload_n dL_law_1415 rfl rfl ?_
  refine c_iconst dL_law_1416 ?_
  refine c_iadd dL_law_1417 ?_
  refine c_iald_old dL_law_1418 (by decide) hS (by omega) (by omega) ?_
  refine z_callv (N := MX9_branch) (ci := 9) (nas := 2) (as := [_, _]) dL_law_1419 w_1150 w_1147 w_1148 w_1149 w_8 (by decide +kernel) rfl rfl rfl (by decide) (Nat.le_of_ble_eq_true rfl) (by decide) (by decide) (ZC.mono (cMX9_branch (hF _) (hF _) hK1.1 hK1.2.1) ?_)
  rintro _ _ ⟨J2, P2, rfl, rfl, hq2, hpp2⟩
  have e2 : aBranch J1 (f (i + 1).toNat) (f (i + 2).toNat) = mp J1 (aBranch J (f (i + 1).toNat) (f (i + 2).toNat)) := (congrArg (fun z => aBranch z (f (i + 1).toNat) (f (i + 2).toNat)) (mrg_self hc1)).symm.trans g_Branch
  rw [e2] at hq2 ⊢
  refine z_icmp_eq (tgt := 1771) dL_law_1422 (by decide) (fun _ => ?_) (fun h => absurd rfl h)
  exact L1771 _ _ _ _ _ _ (WD_ref hW1 hq2) (okR_ref hR1 hq2)
set_option maxHeartbeats 4000000 in
set_option maxRecDepth 100000 in
theorem law_32 {f : Nat → Int} {LN : Nat} {i : Int} {Q0 : Option Value → ZH → Prop} (hS : g.2.2.2.2 0 = (LN, fun j => iZ (f j))) (hLN : LN ≤ 3072) (hF : ∀ j, rI (f j)) (hO : ORUL g) (hi : 0 ≤ i ∧ i + 6 ≤ (LN : Int)) (hW : WD J c Kd J Rd n s0) (hR : okR J) (L1771 : ∀ (K2 : ZK) (J2 P2 : Nat → Nat → Int) (R2 : ZR) (n2 s2 : Nat), WD J2 (c + 1) K2 J2 R2 n2 s2 → okR J2 → Z g l ML_law 1771 [some (.ref 0), some (.ref 4), some (.ref 42), some (.int (iZ i))] [] (KF K2, zi J2, zj P2, RF R2, n2, s2) Q0) : Z g l ML_law 1427 [some (.ref 0), some (.ref 4), some (.ref 42), some (.int (iZ i))] [] (KF Kd, zi J, zj P, RF Rd, n, s0) Q0 := by
  refine z_aload_n dL_law_1427 rfl rfl ?_
  refine z_aload_n dL_law_1428 rfl rfl ?_
  refine z_iload_n dL_law_1429 rfl rfl ?_
  refine c_iconst dL_law_1430 ?_
  refine c_iadd dL_law_1431 ?_
  refine c_iald_old dL_law_1432 (by decide) hS (by omega) (by omega) ?_
  refine z_aload_n dL_law_1433 rfl rfl ?_
  refine z_iload_n dL_law_1434 rfl rfl ?_
  refine c_iconst dL_law_1435 ?_
  refine c_iadd dL_law_1436 ?_
  refine c_iald_old dL_law_1437 (by decide) hS (by omega) (by omega) ?_
  refine z_callv (N := MX8_ofNode) (ci := 8) (nas := 2) (as := [_, _]) dL_law_1438 w_673 w_670 w_671 w_672 w_1 (by decide +kernel) rfl rfl rfl (by decide) (Nat.le_of_ble_eq_true rfl) (by decide) (by decide) (ZC.mono (cMX8_ofNode (hF _) (hF _) hO hW) ?_)
  rintro _ _ ⟨rfl, K1, J1, P1, R1, n1, s1, rfl, hW1, hc1, hp1⟩
  have hK1 := OKA_cs hW.2.2.2.1 hc1
  have hR1 := okR_cs hR hc1
  refine z_aload_n dL_law_1441 rfl rfl ?_
  refine z_aload_n dL_law_1442 rfl rfl ?_
  refine z_iload_n dL_law_1443 rfl rfl ?_
  refine c_iconst dL_law_1444 ?_
  refine c_iadd dL_law_1445 ?_
  refine c_iald_old dL_law_1446 (by decide) hS (by omega) (by omega) ?_
  refine z_aload_n dL_law_1447 rfl rfl ?_
  refine z_iload_n dL_law_1448 rfl rfl ?_
  refine c_iconst dL_law_1449 ?_
  refine c_iadd dL_law_1450 ?_
  refine c_iald_old dL_law_1451 (by decide) hS (by omega) (by omega) ?_
  refine z_callv (N := MX9_ofNode) (ci := 9) (nas := 2) (as := [_, _]) dL_law_1452 w_1158 w_1155 w_1156 w_1157 w_8 (by decide +kernel) rfl rfl rfl (by decide) (Nat.le_of_ble_eq_true rfl) (by decide) (by decide) (ZC.mono (cMX9_ofNode (hF _) (hF _) hK1.2.1 hK1.1 hR1) ?_)
  rintro _ _ ⟨J2, P2, rfl, rfl, hq2, hpp2⟩
  have e2 : aOfNode J1 (f (i + 1).toNat) (f (i + 2).toNat) = (aOfNode J (f (i + 1).toNat) (f (i + 2).toNat)) := (congrArg (fun z => aOfNode z (f (i + 1).toNat) (f (i + 2).toNat)) (mrg_self hc1)).symm.trans g_OfNode
  rw [e2]
  refine z_icmp_eq (tgt := 1771) dL_law_1455 (by decide) (fun _ => ?_) (fun h => absurd rfl h)
  exact L1771 _ _ _ _ _ _ (WD_ref hW1 (by rw [mrg_self hc1]; exact hq2)) (okR_ref (B := J) hR1 (by rw [mrg_self hc1]; exact hq2))
set_option maxHeartbeats 4000000 in
set_option maxRecDepth 100000 in
theorem law_33 {f : Nat → Int} {LN : Nat} {i : Int} {Q0 : Option Value → ZH → Prop} (hS : g.2.2.2.2 0 = (LN, fun j => iZ (f j))) (hLN : LN ≤ 3072) (hF : ∀ j, rI (f j)) (hO : ORUL g) (hi : 0 ≤ i ∧ i + 6 ≤ (LN : Int)) (hW : WD J c Kd J Rd n s0) (hR : okR J) (L1771 : ∀ (K2 : ZK) (J2 P2 : Nat → Nat → Int) (R2 : ZR) (n2 s2 : Nat), WD J2 (c + 1) K2 J2 R2 n2 s2 → okR J2 → Z g l ML_law 1771 [some (.ref 0), some (.ref 4), some (.ref 42), some (.int (iZ i))] [] (KF K2, zi J2, zj P2, RF R2, n2, s2) Q0) : Z g l ML_law 1460 [some (.ref 0), some (.ref 4), some (.ref 42), some (.int (iZ i))] [] (KF Kd, zi J, zj P, RF Rd, n, s0) Q0 := by
  refine z_aload_n dL_law_1460 rfl rfl ?_
  refine z_aload_n dL_law_1461 rfl rfl ?_
  refine z_iload_n dL_law_1462 rfl rfl ?_
  refine c_iconst dL_law_1463 ?_
  refine c_iadd dL_law_1464 ?_
  refine c_iald_old dL_law_1465 (by decide) hS (by omega) (by omega) ?_
  refine z_aload_n dL_law_1466 rfl rfl ?_
  refine z_iload_n dL_law_1467 rfl rfl ?_
  refine c_iconst dL_law_1468 ?_
  refine c_iadd dL_law_1469 ?_
  refine c_iald_old dL_law_1470 (by decide) hS (by omega) (by omega) ?_
  refine z_callv (N := MX8_nodeTo) (ci := 8) (nas := 2) (as := [_, _]) dL_law_1471 w_701 w_698 w_699 w_700 w_1 (by decide +kernel) rfl rfl rfl (by decide) (Nat.le_of_ble_eq_true rfl) (by decide) (by decide) (ZC.mono (cMX8_nodeTo (hF _) (hF _) hW) ?_)
  rintro _ _ ⟨rfl, K1, J1, P1, R1, n1, s1, rfl, hW1, hc1, hp1⟩
  have hK1 := OKA_cs hW.2.2.2.1 hc1
  have hR1 := okR_cs hR hc1
  refine z_aload_n dL_law_1474 rfl rfl ?_
  refine z_aload_n dL_law_1475 rfl rfl ?_
  refine z_iload_n dL_law_1476 rfl rfl ?_
  refine c_iconst dL_law_1477 ?_
  refine c_iadd dL_law_1478 ?_
  refine c_iald_old dL_law_1479 (by decide) hS (by omega) (by omega) ?_
  refine z_aload_n dL_law_1480 rfl rfl ?_
  refine z_iload_n dL_law_1481 rfl rfl ?_
  refine c_iconst dL_law_1482 ?_
  refine c_iadd dL_law_1483 ?_
  refine c_iald_old dL_law_1484 (by decide) hS (by omega) (by omega) ?_
  refine z_callv (N := MX9_nodeTo) (ci := 9) (nas := 2) (as := [_, _]) dL_law_1485 w_1175 w_1172 w_1173 w_1174 w_8 (by decide +kernel) rfl rfl rfl (by decide) (Nat.le_of_ble_eq_true rfl) (by decide) (by decide) (ZC.mono (cMX9_nodeTo (hF _) (hF _) hK1.1 hK1.2.1) ?_)
  rintro _ _ ⟨J2, P2, rfl, rfl, hq2, hpp2⟩
  have e2 : aNodeTo J1 (f (i + 1).toNat) (f (i + 2).toNat) = mp J1 (aNodeTo J (f (i + 1).toNat) (f (i + 2).toNat)) := (congrArg (fun z => aNodeTo z (f (i + 1).toNat) (f (i + 2).toNat)) (mrg_self hc1)).symm.trans g_NodeTo
  rw [e2] at hq2 ⊢
  refine z_icmp_eq (tgt := 1771) dL_law_1488 (by decide) (fun _ => ?_) (fun h => absurd rfl h)
  exact L1771 _ _ _ _ _ _ (WD_ref hW1 hq2) (okR_ref hR1 hq2)
set_option maxHeartbeats 4000000 in
set_option maxRecDepth 100000 in
theorem law_34 {f : Nat → Int} {LN : Nat} {i : Int} {Q0 : Option Value → ZH → Prop} (hS : g.2.2.2.2 0 = (LN, fun j => iZ (f j))) (hLN : LN ≤ 3072) (hF : ∀ j, rI (f j)) (hO : ORUL g) (hi : 0 ≤ i ∧ i + 6 ≤ (LN : Int)) (hW : WD J c Kd J Rd n s0) (hR : okR J) (L1771 : ∀ (K2 : ZK) (J2 P2 : Nat → Nat → Int) (R2 : ZR) (n2 s2 : Nat), WD J2 (c + 1) K2 J2 R2 n2 s2 → okR J2 → Z g l ML_law 1771 [some (.ref 0), some (.ref 4), some (.ref 42), some (.int (iZ i))] [] (KF K2, zi J2, zj P2, RF R2, n2, s2) Q0) : Z g l ML_law 1493 [some (.ref 0), some (.ref 4), some (.ref 42), some (.int (iZ i))] [] (KF Kd, zi J, zj P, RF Rd, n, s0) Q0 := by
  refine z_aload_n dL_law_1493 rfl rfl ?_
  refine z_aload_n dL_law_1494 rfl rfl ?_
  refine z_iload_n dL_law_1495 rfl rfl ?_
  refine c_iconst dL_law_1496 ?_
  refine c_iadd dL_law_1497 ?_
  refine c_iald_old dL_law_1498 (by decide) hS (by omega) (by omega) ?_
  refine z_callv (N := MX8_walk) (ci := 8) (nas := 1) (as := [_]) dL_law_1499 w_705 w_702 w_703 w_704 w_1 (by decide +kernel) rfl rfl rfl (by decide) (Nat.le_of_ble_eq_true rfl) (by decide) (by decide) (ZC.mono (cMX8_walk (hF _) hW) ?_)
  rintro _ _ ⟨rfl, K1, J1, P1, R1, n1, s1, rfl, hW1, hc1, hp1⟩
  have hK1 := OKA_cs hW.2.2.2.1 hc1
  have hR1 := okR_cs hR hc1
  refine z_aload_n dL_law_1502 rfl rfl ?_
  refine z_aload_n dL_law_1503 rfl rfl ?_
  refine z_iload_n dL_law_1504 rfl rfl ?_
  refine c_iconst dL_law_1505 ?_
  refine c_iadd dL_law_1506 ?_
  refine c_iald_old dL_law_1507 (by decide) hS (by omega) (by omega) ?_
  refine z_callv (N := MX9_walk) (ci := 9) (nas := 1) (as := [_]) dL_law_1508 w_1179 w_1176 w_1177 w_1178 w_8 (by decide +kernel) rfl rfl rfl (by decide) (Nat.le_of_ble_eq_true rfl) (by decide) (by decide) (ZC.mono (cMX9_walk (hF _) hK1.2.1) ?_)
  rintro _ _ ⟨J2, P2, rfl, rfl, hq2, hpp2⟩
  have e2 : aWalk J1 (f (i + 1).toNat) = (aWalk J (f (i + 1).toNat)) := (congrArg (fun z => aWalk z (f (i + 1).toNat)) (mrg_self hc1)).symm.trans g_Walk
  rw [e2]
  refine z_icmp_eq (tgt := 1771) dL_law_1511 (by decide) (fun _ => ?_) (fun h => absurd rfl h)
  exact L1771 _ _ _ _ _ _ (WD_ref hW1 (by rw [mrg_self hc1]; exact hq2)) (okR_ref (B := J) hR1 (by rw [mrg_self hc1]; exact hq2))
set_option maxHeartbeats 4000000 in
set_option maxRecDepth 100000 in
theorem law_35 {f : Nat → Int} {LN : Nat} {i : Int} {Q0 : Option Value → ZH → Prop} (hS : g.2.2.2.2 0 = (LN, fun j => iZ (f j))) (hLN : LN ≤ 3072) (hF : ∀ j, rI (f j)) (hO : ORUL g) (hi : 0 ≤ i ∧ i + 6 ≤ (LN : Int)) (hW : WD J c Kd J Rd n s0) (hR : okR J) (L1771 : ∀ (K2 : ZK) (J2 P2 : Nat → Nat → Int) (R2 : ZR) (n2 s2 : Nat), WD J2 (c + 1) K2 J2 R2 n2 s2 → okR J2 → Z g l ML_law 1771 [some (.ref 0), some (.ref 4), some (.ref 42), some (.int (iZ i))] [] (KF K2, zi J2, zj P2, RF R2, n2, s2) Q0) : Z g l ML_law 1516 [some (.ref 0), some (.ref 4), some (.ref 42), some (.int (iZ i))] [] (KF Kd, zi J, zj P, RF Rd, n, s0) Q0 := by
  refine z_aload_n dL_law_1516 rfl rfl ?_
  refine z_aload_n dL_law_1517 rfl rfl ?_
  refine z_iload_n dL_law_1518 rfl rfl ?_
  refine c_iconst dL_law_1519 ?_
  refine c_iadd dL_law_1520 ?_
  refine c_iald_old dL_law_1521 (by decide) hS (by omega) (by omega) ?_
  refine z_callv (N := MX8_cut) (ci := 8) (nas := 1) (as := [_]) dL_law_1522 w_717 w_714 w_715 w_716 w_1 (by decide +kernel) rfl rfl rfl (by decide) (Nat.le_of_ble_eq_true rfl) (by decide) (by decide) (ZC.mono (cMX8_cut (hF _) hW) ?_)
  rintro _ _ ⟨rfl, K1, J1, P1, R1, n1, s1, rfl, hW1, hc1, hp1⟩
  have hK1 := OKA_cs hW.2.2.2.1 hc1
  have hR1 := okR_cs hR hc1
  refine z_aload_n dL_law_1525 rfl rfl ?_
  refine z_aload_n dL_law_1526 rfl rfl ?_
  refine z_iload_n dL_law_1527 rfl rfl ?_
  refine c_iconst dL_law_1528 ?_
  refine c_iadd dL_law_1529 ?_
  refine c_iald_old dL_law_1530 (by decide) hS (by omega) (by omega) ?_
  refine z_callv (N := MX9_cut) (ci := 9) (nas := 1) (as := [_]) dL_law_1531 w_1191 w_1188 w_1189 w_1190 w_8 (by decide +kernel) rfl rfl rfl (by decide) (Nat.le_of_ble_eq_true rfl) (by decide) (by decide) (ZC.mono (cMX9_cut (hF _) hK1.2.1) ?_)
  rintro _ _ ⟨J2, P2, rfl, rfl, hq2, hpp2⟩
  have e2 : aCut J1 (f (i + 1).toNat) = mp J1 (aCut J (f (i + 1).toNat)) := (congrArg (fun z => aCut z (f (i + 1).toNat)) (mrg_self hc1)).symm.trans g_Cut
  rw [e2] at hq2 ⊢
  refine z_icmp_eq (tgt := 1771) dL_law_1534 (by decide) (fun _ => ?_) (fun h => absurd rfl h)
  exact L1771 _ _ _ _ _ _ (WD_ref hW1 hq2) (okR_ref hR1 hq2)
set_option maxHeartbeats 4000000 in
set_option maxRecDepth 100000 in
theorem law_36 {f : Nat → Int} {LN : Nat} {i : Int} {Q0 : Option Value → ZH → Prop} (hS : g.2.2.2.2 0 = (LN, fun j => iZ (f j))) (hLN : LN ≤ 3072) (hF : ∀ j, rI (f j)) (hO : ORUL g) (hi : 0 ≤ i ∧ i + 6 ≤ (LN : Int)) (hW : WD J c Kd J Rd n s0) (hR : okR J) (L1771 : ∀ (K2 : ZK) (J2 P2 : Nat → Nat → Int) (R2 : ZR) (n2 s2 : Nat), WD J2 (c + 1) K2 J2 R2 n2 s2 → okR J2 → Z g l ML_law 1771 [some (.ref 0), some (.ref 4), some (.ref 42), some (.int (iZ i))] [] (KF K2, zi J2, zj P2, RF R2, n2, s2) Q0) : Z g l ML_law 1539 [some (.ref 0), some (.ref 4), some (.ref 42), some (.int (iZ i))] [] (KF Kd, zi J, zj P, RF Rd, n, s0) Q0 := by
  refine z_aload_n dL_law_1539 rfl rfl ?_
  refine z_aload_n dL_law_1540 rfl rfl ?_
  refine z_iload_n dL_law_1541 rfl rfl ?_
  refine c_iconst dL_law_1542 ?_
  refine c_iadd dL_law_1543 ?_
  refine c_iald_old dL_law_1544 (by decide) hS (by omega) (by omega) ?_
  refine z_aload_n dL_law_1545 rfl rfl ?_
  refine z_iload_n dL_law_1546 rfl rfl ?_
  refine c_iconst dL_law_1547 ?_
  refine c_iadd dL_law_1548 ?_
  refine c_iald_old dL_law_1549 (by decide) hS (by omega) (by omega) ?_
  refine z_aload_n dL_law_1550 rfl rfl ?_
  refine z_iload_n dL_law_1551 rfl rfl ?_
  refine c_iconst dL_law_1552 ?_
  refine c_iadd dL_law_1553 ?_
  refine c_iald_old dL_law_1554 (by decide) hS (by omega) (by omega) ?_
  refine z_callv (N := MX8_sheet) (ci := 8) (nas := 3) (as := [_, _, _]) dL_law_1555 w_726 w_723 w_724 w_725 w_1 (by decide +kernel) rfl rfl rfl (by decide) (Nat.le_of_ble_eq_true rfl) (by decide) (by decide) (ZC.mono (cMX8_sheet (hF _) (hF _) (hF _) hW) ?_)
  rintro _ _ ⟨rfl, K1, J1, P1, R1, n1, s1, rfl, hW1, hc1, hp1⟩
  have hK1 := OKA_cs hW.2.2.2.1 hc1
  have hR1 := okR_cs hR hc1
  refine z_aload_n dL_law_1558 rfl rfl ?_
  refine z_aload_n dL_law_1559 rfl rfl ?_
  refine z_iload_n dL_law_1560 rfl rfl ?_
  refine c_iconst dL_law_1561 ?_
  refine c_iadd dL_law_1562 ?_
  refine c_iald_old dL_law_1563 (by decide) hS (by omega) (by omega) ?_
  refine z_aload_n dL_law_1564 rfl rfl ?_
  refine z_iload_n dL_law_1565 rfl rfl ?_
  refine c_iconst dL_law_1566 ?_
  refine c_iadd dL_law_1567 ?_
  refine c_iald_old dL_law_1568 (by decide) hS (by omega) (by omega) ?_
  refine z_aload_n dL_law_1569 rfl rfl ?_
  refine z_iload_n dL_law_1570 rfl rfl ?_
  refine c_iconst dL_law_1571 ?_
  refine c_iadd dL_law_1572 ?_
  refine c_iald_old dL_law_1573 (by decide) hS (by omega) (by omega) ?_
  refine z_callv (N := MX9_sheet) (ci := 9) (nas := 3) (as := [_, _, _]) dL_law_1574 w_1195 w_1192 w_1193 w_1194 w_8 (by decide +kernel) rfl rfl rfl (by decide) (Nat.le_of_ble_eq_true rfl) (by decide) (by decide) (ZC.mono (cMX9_sheet (hF _) (hF _) (hF _)) ?_)
  rintro _ _ ⟨J2, P2, rfl, rfl, hq2, hpp2⟩
  have e2 : aSheet J1 (f (i + 1).toNat) (f (i + 2).toNat) (f (i + 3).toNat) = mp J1 (aSheet J (f (i + 1).toNat) (f (i + 2).toNat) (f (i + 3).toNat)) := (congrArg (fun z => aSheet z (f (i + 1).toNat) (f (i + 2).toNat) (f (i + 3).toNat)) (mrg_self hc1)).symm.trans g_Sheet
  rw [e2] at hq2 ⊢
  refine z_icmp_eq (tgt := 1771) dL_law_1577 (by decide) (fun _ => ?_) (fun h => absurd rfl h)
  exact L1771 _ _ _ _ _ _ (WD_ref hW1 hq2) (okR_ref hR1 hq2)
set_option maxHeartbeats 4000000 in
set_option maxRecDepth 100000 in
theorem law_37 {f : Nat → Int} {LN : Nat} {i : Int} {Q0 : Option Value → ZH → Prop} (hS : g.2.2.2.2 0 = (LN, fun j => iZ (f j))) (hLN : LN ≤ 3072) (hF : ∀ j, rI (f j)) (hO : ORUL g) (hi : 0 ≤ i ∧ i + 6 ≤ (LN : Int)) (hW : WD J c Kd J Rd n s0) (hR : okR J) (L1771 : ∀ (K2 : ZK) (J2 P2 : Nat → Nat → Int) (R2 : ZR) (n2 s2 : Nat), WD J2 (c + 1) K2 J2 R2 n2 s2 → okR J2 → Z g l ML_law 1771 [some (.ref 0), some (.ref 4), some (.ref 42), some (.int (iZ i))] [] (KF K2, zi J2, zj P2, RF R2, n2, s2) Q0) : Z g l ML_law 1582 [some (.ref 0), some (.ref 4), some (.ref 42), some (.int (iZ i))] [] (KF Kd, zi J, zj P, RF Rd, n, s0) Q0 := by
  refine z_aload_n dL_law_1582 rfl rfl ?_
  refine z_aload_n dL_law_1583 rfl rfl ?_
  refine z_iload_n dL_law_1584 rfl rfl ?_
  refine c_iconst dL_law_1585 ?_
  refine c_iadd dL_law_1586 ?_
  refine c_iald_old dL_law_1587 (by decide) hS (by omega) (by omega) ?_
  refine z_aload_n dL_law_1588 rfl rfl ?_
  refine z_iload_n dL_law_1589 rfl rfl ?_
  refine c_iconst dL_law_1590 ?_
  refine c_iadd dL_law_1591 ?_
  refine c_iald_old dL_law_1592 (by decide) hS (by omega) (by omega) ?_
  refine z_aload_n dL_law_1593 rfl rfl ?_
  refine z_iload_n dL_law_1594 rfl rfl ?_
  refine c_iconst dL_law_1595 ?_
  refine c_iadd dL_law_1596 ?_
  refine c_iald_old dL_law_1597 (by decide) hS (by omega) (by omega) ?_
  refine z_callv (N := MX8_cell) (ci := 8) (nas := 3) (as := [_, _, _]) dL_law_1598 w_735 w_732 w_733 w_734 w_1 (by decide +kernel) rfl rfl rfl (by decide) (Nat.le_of_ble_eq_true rfl) (by decide) (by decide) (ZC.mono (cMX8_cell (hF _) (hF _) (hF _) hW) ?_)
  rintro _ _ ⟨rfl, K1, J1, P1, R1, n1, s1, rfl, hW1, hc1, hp1⟩
  have hK1 := OKA_cs hW.2.2.2.1 hc1
  have hR1 := okR_cs hR hc1
  refine z_aload_n dL_law_1601 rfl rfl ?_
  refine z_aload_n dL_law_1602 rfl rfl ?_
  refine z_iload_n dL_law_1603 rfl rfl ?_
  refine c_iconst dL_law_1604 ?_
  refine c_iadd dL_law_1605 ?_
  refine c_iald_old dL_law_1606 (by decide) hS (by omega) (by omega) ?_
  refine z_aload_n dL_law_1607 rfl rfl ?_
  refine z_iload_n dL_law_1608 rfl rfl ?_
  refine c_iconst dL_law_1609 ?_
  refine c_iadd dL_law_1610 ?_
  refine c_iald_old dL_law_1611 (by decide) hS (by omega) (by omega) ?_
  refine z_aload_n dL_law_1612 rfl rfl ?_
  refine z_iload_n dL_law_1613 rfl rfl ?_
  refine c_iconst dL_law_1614 ?_
  refine c_iadd dL_law_1615 ?_
  refine c_iald_old dL_law_1616 (by decide) hS (by omega) (by omega) ?_
  refine z_callv (N := MX9_cell) (ci := 9) (nas := 3) (as := [_, _, _]) dL_law_1617 w_1199 w_1196 w_1197 w_1198 w_8 (by decide +kernel) rfl rfl rfl (by decide) (Nat.le_of_ble_eq_true rfl) (by decide) (by decide) (ZC.mono (cMX9_cell (hF _) (hF _) (hF _) hK1.2.2) ?_)
  rintro _ _ ⟨J2, P2, rfl, rfl, hq2, hpp2⟩
  have e2 : aCell J1 (f (i + 1).toNat) (f (i + 2).toNat) (f (i + 3).toNat) = mp J1 (aCell J (f (i + 1).toNat) (f (i + 2).toNat) (f (i + 3).toNat)) := (congrArg (fun z => aCell z (f (i + 1).toNat) (f (i + 2).toNat) (f (i + 3).toNat)) (mrg_self hc1)).symm.trans g_Cell
  rw [e2] at hq2 ⊢
  refine z_icmp_eq (tgt := 1771) dL_law_1620 (by decide) (fun _ => ?_) (fun h => absurd rfl h)
  exact L1771 _ _ _ _ _ _ (WD_ref hW1 hq2) (okR_ref hR1 hq2)
set_option maxHeartbeats 4000000 in
set_option maxRecDepth 100000 in
theorem law_38 {f : Nat → Int} {LN : Nat} {i : Int} {Q0 : Option Value → ZH → Prop} (hS : g.2.2.2.2 0 = (LN, fun j => iZ (f j))) (hLN : LN ≤ 3072) (hF : ∀ j, rI (f j)) (hO : ORUL g) (hi : 0 ≤ i ∧ i + 6 ≤ (LN : Int)) (hW : WD J c Kd J Rd n s0) (hR : okR J) (L1771 : ∀ (K2 : ZK) (J2 P2 : Nat → Nat → Int) (R2 : ZR) (n2 s2 : Nat), WD J2 (c + 1) K2 J2 R2 n2 s2 → okR J2 → Z g l ML_law 1771 [some (.ref 0), some (.ref 4), some (.ref 42), some (.int (iZ i))] [] (KF K2, zi J2, zj P2, RF R2, n2, s2) Q0) : Z g l ML_law 1625 [some (.ref 0), some (.ref 4), some (.ref 42), some (.int (iZ i))] [] (KF Kd, zi J, zj P, RF Rd, n, s0) Q0 := by
  refine z_aload_n dL_law_1625 rfl rfl ?_
  refine z_aload_n dL_law_1626 rfl rfl ?_
  refine z_iload_n dL_law_1627 rfl rfl ?_
  refine c_iconst dL_law_1628 ?_
  refine c_iadd dL_law_1629 ?_
  refine c_iald_old dL_law_1630 (by decide) hS (by omega) (by omega) ?_
  refine z_aload_n dL_law_1631 rfl rfl ?_
  refine z_iload_n dL_law_1632 rfl rfl ?_
  refine c_iconst dL_law_1633 ?_
  refine c_iadd dL_law_1634 ?_
  refine c_iald_old dL_law_1635 (by decide) hS (by omega) (by omega) ?_
  refine z_callv (N := MX8_item) (ci := 8) (nas := 2) (as := [_, _]) dL_law_1636 w_739 w_736 w_737 w_738 w_1 (by decide +kernel) rfl rfl rfl (by decide) (Nat.le_of_ble_eq_true rfl) (by decide) (by decide) (ZC.mono (cMX8_item (hF _) (hF _) hW) ?_)
  rintro _ _ ⟨rfl, K1, J1, P1, R1, n1, s1, rfl, hW1, hc1, hp1⟩
  have hK1 := OKA_cs hW.2.2.2.1 hc1
  have hR1 := okR_cs hR hc1
  refine z_aload_n dL_law_1639 rfl rfl ?_
  refine z_aload_n dL_law_1640 rfl rfl ?_
  refine z_iload_n dL_law_1641 rfl rfl ?_
  refine c_iconst dL_law_1642 ?_
  refine c_iadd dL_law_1643 ?_
  refine c_iald_old dL_law_1644 (by decide) hS (by omega) (by omega) ?_
  refine z_aload_n dL_law_1645 rfl rfl ?_
  refine z_iload_n dL_law_1646 rfl rfl ?_
  refine c_iconst dL_law_1647 ?_
  refine c_iadd dL_law_1648 ?_
  refine c_iald_old dL_law_1649 (by decide) hS (by omega) (by omega) ?_
  refine z_callv (N := MX9_item) (ci := 9) (nas := 2) (as := [_, _]) dL_law_1650 w_1203 w_1200 w_1201 w_1202 w_8 (by decide +kernel) rfl rfl rfl (by decide) (Nat.le_of_ble_eq_true rfl) (by decide) (by decide) (ZC.mono (cMX9_item (hF _) (hF _) hK1.2.2) ?_)
  rintro _ _ ⟨J2, P2, rfl, rfl, hq2, hpp2⟩
  have e2 : aItem J1 (f (i + 1).toNat) (f (i + 2).toNat) = (aItem J (f (i + 1).toNat) (f (i + 2).toNat)) := (congrArg (fun z => aItem z (f (i + 1).toNat) (f (i + 2).toNat)) (mrg_self hc1)).symm.trans g_Item
  rw [e2]
  refine z_lsame (tgt := 1771) rfl dL_law_1653 dL_law_1654 (by decide) ?_
  exact L1771 _ _ _ _ _ _ (WD_ref hW1 (by rw [mrg_self hc1]; exact hq2)) (okR_ref (B := J) hR1 (by rw [mrg_self hc1]; exact hq2))
set_option maxHeartbeats 4000000 in
set_option maxRecDepth 100000 in
theorem law_39 {f : Nat → Int} {LN : Nat} {i : Int} {Q0 : Option Value → ZH → Prop} (hS : g.2.2.2.2 0 = (LN, fun j => iZ (f j))) (hLN : LN ≤ 3072) (hF : ∀ j, rI (f j)) (hO : ORUL g) (hi : 0 ≤ i ∧ i + 6 ≤ (LN : Int)) (hW : WD J c Kd J Rd n s0) (hR : okR J) (L1771 : ∀ (K2 : ZK) (J2 P2 : Nat → Nat → Int) (R2 : ZR) (n2 s2 : Nat), WD J2 (c + 1) K2 J2 R2 n2 s2 → okR J2 → Z g l ML_law 1771 [some (.ref 0), some (.ref 4), some (.ref 42), some (.int (iZ i))] [] (KF K2, zi J2, zj P2, RF R2, n2, s2) Q0) : Z g l ML_law 1659 [some (.ref 0), some (.ref 4), some (.ref 42), some (.int (iZ i))] [] (KF Kd, zi J, zj P, RF Rd, n, s0) Q0 := by
  refine z_aload_n dL_law_1659 rfl rfl ?_
  refine z_aload_n dL_law_1660 rfl rfl ?_
  refine z_iload_n dL_law_1661 rfl rfl ?_
  refine c_iconst dL_law_1662 ?_
  refine c_iadd dL_law_1663 ?_
  refine c_iald_old dL_law_1664 (by decide) hS (by omega) (by omega) ?_
  refine z_aload_n dL_law_1665 rfl rfl ?_
  refine z_iload_n dL_law_1666 rfl rfl ?_
  refine c_iconst dL_law_1667 ?_
  refine c_iadd dL_law_1668 ?_
  refine c_iald_old dL_law_1669 (by decide) hS (by omega) (by omega) ?_
  refine z_aload_n dL_law_1670 rfl rfl ?_
  refine z_iload_n dL_law_1671 rfl rfl ?_
  refine c_iconst dL_law_1672 ?_
  refine c_iadd dL_law_1673 ?_
  refine c_iald_old dL_law_1674 (by decide) hS (by omega) (by omega) ?_
  refine z_aload_n dL_law_1675 rfl rfl ?_
  refine z_iload_n dL_law_1676 rfl rfl ?_
  refine c_iconst dL_law_1677 ?_
  refine c_iadd dL_law_1678 ?_
  refine c_iald_old dL_law_1679 (by decide) hS (by omega) (by omega) ?_
  refine z_aload_n dL_law_1680 rfl rfl ?_
  refine z_iload_n dL_law_1681 rfl rfl ?_
  refine c_iconst dL_law_1682 ?_
  refine c_iadd dL_law_1683 ?_
  refine c_iald_old dL_law_1684 (by decide) hS (by omega) (by omega) ?_
  refine z_callv (N := MX8_move) (ci := 8) (nas := 5) (as := [_, _, _, _, _]) dL_law_1685 w_744 w_741 w_742 w_743 w_1 (by decide +kernel) rfl rfl rfl (by decide) (Nat.le_of_ble_eq_true rfl) (by decide) (by decide) (ZC.mono (cMX8_move (hF _) (hF _) (hF _) (hF _) (hF _) hW) ?_)
  rintro _ _ ⟨rfl, K1, J1, P1, R1, n1, s1, rfl, hW1, hc1, hp1⟩
  have hK1 := OKA_cs hW.2.2.2.1 hc1
  have hR1 := okR_cs hR hc1
  refine z_aload_n dL_law_1688 rfl rfl ?_
  refine z_aload_n dL_law_1689 rfl rfl ?_
  refine z_iload_n dL_law_1690 rfl rfl ?_
  refine c_iconst dL_law_1691 ?_
  refine c_iadd dL_law_1692 ?_
  refine c_iald_old dL_law_1693 (by decide) hS (by omega) (by omega) ?_
  refine z_aload_n dL_law_1694 rfl rfl ?_
  refine z_iload_n dL_law_1695 rfl rfl ?_
  refine c_iconst dL_law_1696 ?_
  refine c_iadd dL_law_1697 ?_
  refine c_iald_old dL_law_1698 (by decide) hS (by omega) (by omega) ?_
  refine z_aload_n dL_law_1699 rfl rfl ?_
  refine z_iload_n dL_law_1700 rfl rfl ?_
  refine c_iconst dL_law_1701 ?_
  refine c_iadd dL_law_1702 ?_
  refine c_iald_old dL_law_1703 (by decide) hS (by omega) (by omega) ?_
  refine z_aload_n dL_law_1704 rfl rfl ?_
  refine z_iload_n dL_law_1705 rfl rfl ?_
  refine c_iconst dL_law_1706 ?_
  refine c_iadd dL_law_1707 ?_
  refine c_iald_old dL_law_1708 (by decide) hS (by omega) (by omega) ?_
  refine z_aload_n dL_law_1709 rfl rfl ?_
  refine z_iload_n dL_law_1710 rfl rfl ?_
  refine c_iconst dL_law_1711 ?_
  refine c_iadd dL_law_1712 ?_
  refine c_iald_old dL_law_1713 (by decide) hS (by omega) (by omega) ?_
  refine z_callv (N := MX9_move) (ci := 9) (nas := 5) (as := [_, _, _, _, _]) dL_law_1714 w_1208 w_1205 w_1206 w_1207 w_8 (by decide +kernel) rfl rfl rfl (by decide) (Nat.le_of_ble_eq_true rfl) (by decide) (by decide) (ZC.mono (cMX9_move (hF _) (hF _) (hF _) (hF _) (hF _) hK1.2.2) ?_)
  rintro _ _ ⟨J2, P2, rfl, rfl, hq2, hpp2⟩
  have e2 : aMove J1 (f (i + 1).toNat) (f (i + 2).toNat) (f (i + 3).toNat) (f (i + 4).toNat) (f (i + 5).toNat) = mp J1 (aMove J (f (i + 1).toNat) (f (i + 2).toNat) (f (i + 3).toNat) (f (i + 4).toNat) (f (i + 5).toNat)) := (congrArg (fun z => aMove z (f (i + 1).toNat) (f (i + 2).toNat) (f (i + 3).toNat) (f (i + 4).toNat) (f (i + 5).toNat)) (mrg_self hc1)).symm.trans g_Move
  rw [e2] at hq2 ⊢
  refine z_icmp_eq (tgt := 1771) dL_law_1717 (by decide) (fun _ => ?_) (fun h => absurd rfl h)
  exact L1771 _ _ _ _ _ _ (WD_ref hW1 hq2) (okR_ref hR1 hq2)
set_option maxHeartbeats 4000000 in
set_option maxRecDepth 100000 in
theorem law_40 {f : Nat → Int} {LN : Nat} {i : Int} {Q0 : Option Value → ZH → Prop} (hS : g.2.2.2.2 0 = (LN, fun j => iZ (f j))) (hLN : LN ≤ 3072) (hF : ∀ j, rI (f j)) (hO : ORUL g) (hi : 0 ≤ i ∧ i + 6 ≤ (LN : Int)) (hW : WD J c Kd J Rd n s0) (hR : okR J) (L1771 : ∀ (K2 : ZK) (J2 P2 : Nat → Nat → Int) (R2 : ZR) (n2 s2 : Nat), WD J2 (c + 1) K2 J2 R2 n2 s2 → okR J2 → Z g l ML_law 1771 [some (.ref 0), some (.ref 4), some (.ref 42), some (.int (iZ i))] [] (KF K2, zi J2, zj P2, RF R2, n2, s2) Q0) : Z g l ML_law 1722 [some (.ref 0), some (.ref 4), some (.ref 42), some (.int (iZ i))] [] (KF Kd, zi J, zj P, RF Rd, n, s0) Q0 := by
  refine z_aload_n dL_law_1722 rfl rfl ?_
  refine z_callv (N := MX8_keep) (ci := 8) (nas := 0) (as := []) dL_law_1723 w_749 w_746 w_747 w_748 w_1 (by decide +kernel) rfl rfl rfl (by decide) (Nat.le_of_ble_eq_true rfl) (by decide) (by decide) (ZC.mono (cMX8_keep hW) ?_)
  rintro _ _ ⟨rfl, K1, J1, P1, R1, n1, s1, rfl, hW1, hc1, hp1⟩
  have hK1 := OKA_cs hW.2.2.2.1 hc1
  have hR1 := okR_cs hR hc1
  refine z_aload_n dL_law_1726 rfl rfl ?_
  refine z_callv (N := MX9_keep) (ci := 9) (nas := 0) (as := []) dL_law_1727 w_1212 w_1209 w_1210 w_1211 w_8 (by decide +kernel) rfl rfl rfl (by decide) (Nat.le_of_ble_eq_true rfl) (by decide) (by decide) (ZC.mono (cMX9_keep hK1.1 hK1.2.1) ?_)
  rintro _ _ ⟨J2, P2, rfl, rfl, hq2, hpp2⟩
  have e2 : aKeep J1  = mp J1 (aKeep J ) := (congrArg (fun z => aKeep z ) (mrg_self hc1)).symm.trans g_Keep
  rw [e2] at hq2 ⊢
  refine z_icmp_eq (tgt := 1771) dL_law_1730 (by decide) (fun _ => ?_) (fun h => absurd rfl h)
  exact L1771 _ _ _ _ _ _ (WD_ref hW1 hq2) (okR_ref hR1 hq2)
set_option maxHeartbeats 4000000 in
set_option maxRecDepth 100000 in
theorem law_41 {f : Nat → Int} {LN : Nat} {i : Int} {Q0 : Option Value → ZH → Prop} (hS : g.2.2.2.2 0 = (LN, fun j => iZ (f j))) (hLN : LN ≤ 3072) (hF : ∀ j, rI (f j)) (hO : ORUL g) (hi : 0 ≤ i ∧ i + 6 ≤ (LN : Int)) (hW : WD J c Kd J Rd n s0) (hR : okR J) (L1771 : ∀ (K2 : ZK) (J2 P2 : Nat → Nat → Int) (R2 : ZR) (n2 s2 : Nat), WD J2 (c + 1) K2 J2 R2 n2 s2 → okR J2 → Z g l ML_law 1771 [some (.ref 0), some (.ref 4), some (.ref 42), some (.int (iZ i))] [] (KF K2, zi J2, zj P2, RF R2, n2, s2) Q0) : Z g l ML_law 1735 [some (.ref 0), some (.ref 4), some (.ref 42), some (.int (iZ i))] [] (KF Kd, zi J, zj P, RF Rd, n, s0) Q0 := by
  refine z_aload_n dL_law_1735 rfl rfl ?_
  refine z_callv (N := MX8_back) (ci := 8) (nas := 0) (as := []) dL_law_1736 w_761 w_758 w_759 w_760 w_1 (by decide +kernel) rfl rfl rfl (by decide) (Nat.le_of_ble_eq_true rfl) (by decide) (by decide) (ZC.mono (cMX8_back hW) ?_)
  rintro _ _ ⟨rfl, K1, J1, P1, R1, n1, s1, rfl, hW1, hc1, hp1⟩
  have hK1 := OKA_cs hW.2.2.2.1 hc1
  have hR1 := okR_cs hR hc1
  refine z_aload_n dL_law_1739 rfl rfl ?_
  refine z_callv (N := MX9_back) (ci := 9) (nas := 0) (as := []) dL_law_1740 w_1220 w_1217 w_1218 w_1219 w_8 (by decide +kernel) rfl rfl rfl (by decide) (Nat.le_of_ble_eq_true rfl) (by decide) (by decide) (ZC.mono (cMX9_back hK1.1 hK1.2.1) ?_)
  rintro _ _ ⟨J2, P2, rfl, rfl, hq2, hpp2⟩
  have e2 : aBack J1  = mp J1 (aBack J ) := (congrArg (fun z => aBack z ) (mrg_self hc1)).symm.trans g_Back
  rw [e2] at hq2 ⊢
  refine z_icmp_eq (tgt := 1771) dL_law_1743 (by decide) (fun _ => ?_) (fun h => absurd rfl h)
  exact L1771 _ _ _ _ _ _ (WD_ref hW1 hq2) (okR_ref hR1 hq2)
set_option maxHeartbeats 4000000 in
set_option maxRecDepth 100000 in
theorem law_42 {f : Nat → Int} {LN : Nat} {i : Int} {Q0 : Option Value → ZH → Prop} (hS : g.2.2.2.2 0 = (LN, fun j => iZ (f j))) (hLN : LN ≤ 3072) (hF : ∀ j, rI (f j)) (hO : ORUL g) (hi : 0 ≤ i ∧ i + 6 ≤ (LN : Int)) (hW : WD J c Kd J Rd n s0) (hR : okR J) (L1771 : ∀ (K2 : ZK) (J2 P2 : Nat → Nat → Int) (R2 : ZR) (n2 s2 : Nat), WD J2 (c + 1) K2 J2 R2 n2 s2 → okR J2 → Z g l ML_law 1771 [some (.ref 0), some (.ref 4), some (.ref 42), some (.int (iZ i))] [] (KF K2, zi J2, zj P2, RF R2, n2, s2) Q0) : Z g l ML_law 1748 [some (.ref 0), some (.ref 4), some (.ref 42), some (.int (iZ i))] [] (KF Kd, zi J, zj P, RF Rd, n, s0) Q0 := by
  refine z_aload_n dL_law_1748 rfl rfl ?_
  refine z_aload_n dL_law_1749 rfl rfl ?_
  refine z_iload_n dL_law_1750 rfl rfl ?_
  refine c_iconst dL_law_1751 ?_
  refine c_iadd dL_law_1752 ?_
  refine c_iald_old dL_law_1753 (by decide) hS (by omega) (by omega) ?_
  refine z_callv (N := MX8_count) (ci := 8) (nas := 1) (as := [_]) dL_law_1754 w_765 w_762 w_763 w_764 w_1 (by decide +kernel) rfl rfl rfl (by decide) (Nat.le_of_ble_eq_true rfl) (by decide) (by decide) (ZC.mono (cMX8_count (hF _) hW) ?_)
  rintro _ _ ⟨rfl, K1, J1, P1, R1, n1, s1, rfl, hW1, hc1, hp1⟩
  have hK1 := OKA_cs hW.2.2.2.1 hc1
  have hR1 := okR_cs hR hc1
  refine z_aload_n dL_law_1757 rfl rfl ?_
  refine z_aload_n dL_law_1758 rfl rfl ?_
  refine z_iload_n dL_law_1759 rfl rfl ?_
  refine c_iconst dL_law_1760 ?_
  refine c_iadd dL_law_1761 ?_
  refine c_iald_old dL_law_1762 (by decide) hS (by omega) (by omega) ?_
  refine z_callv (N := MX9_count) (ci := 9) (nas := 1) (as := [_]) dL_law_1763 w_1224 w_1221 w_1222 w_1223 w_8 (by decide +kernel) rfl rfl rfl (by decide) (Nat.le_of_ble_eq_true rfl) (by decide) (by decide) (ZC.mono (cMX9_count (hF _) hK1.1 hK1.2.1 hK1.2.2) ?_)
  rintro _ _ ⟨J2, P2, rfl, rfl, hq2, hpp2⟩
  have e2 : aCount J1 (f (i + 1).toNat) = (aCount J (f (i + 1).toNat)) := (congrArg (fun z => aCount z (f (i + 1).toNat)) (mrg_self hc1)).symm.trans g_Count
  rw [e2]
  refine z_icmp_eq (tgt := 1771) dL_law_1766 (by decide) (fun _ => ?_) (fun h => absurd rfl h)
  exact L1771 _ _ _ _ _ _ (WD_ref hW1 (by rw [mrg_self hc1]; exact hq2)) (okR_ref (B := J) hR1 (by rw [mrg_self hc1]; exact hq2))
end Law1
