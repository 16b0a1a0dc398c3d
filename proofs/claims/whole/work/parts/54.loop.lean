/-! ===== the law's loop ===== -/
def zINV (I : ZMi) (L : ZMl) (R : ZMr) : Prop := (∀ k, k < 5 → I 1 k = zmn k) ∧ ∃ (w v : Nat) (S : ZS) (nS nP nW len : Nat) (T : Nat → Nat) (na : Nat) (A : ZA) (kp n1 : Nat) (A1 : ZA) (n2 : Nat) (A2 : ZA) , zRI R w v ∧ zPI S nS nP nW len T na A kp n1 A1 n2 A2 ∧ zCI I L w S nS nP nW len T na A kp n1 A1 n2 A2 ∧ zMI I S nS nP nW len T na A kp n1 A1 n2 A2
theorem zRI_lay {R : ZMr} {w v : Nat} (h : zRI R w v) : zRI (zup (zup R 2 9 (v + 1)) 2 10 (w + 1)) v w := by
  obtain ⟨h1, h2, h3, h4, h5, h6, h7⟩ := h
  refine ⟨zRa_up (zRa_up h1 (by decide)) (by decide), fun k => ?_, (zup_n _ _ _ _ (by decide)).trans (zup_s _ _ _ _), zup_s _ _ _ _, h6, h5, fun e => h7 e.symm⟩
  exact (zup_na _ _ _ _ (by decide)).trans ((zup_na _ _ _ _ (by decide)).trans (h2 k))
theorem zlw_i {N i : Nat} (hN : N ≤ 2560) (hi : i ≤ 5000) (h : ¬ nI N - 5 < nI i) : i + 5 ≤ N := by
  rw [z_lt, Int32.toInt_sub, nI_toInt (by omega), nI_toInt (by omega), show (5 : Int32).toInt = 5 from by decide, zbm (by omega) (by omega)] at h
  omega
set_option maxRecDepth 4000 in
theorem l_part {K : ZKh} {P : Nat → Nat → List Value → List Value → ZMi → ZMl → ZMr → ZRt → Prop} {I : ZMi} {L : ZMl} {R : ZMr} {Q : ZRt} (hP : ZCl K P) (hK : zKa K) (hKb : zKb K) {N i : Nat} (hK0 : K 0 = (30, N)) (hN : N ≤ 2560) (hi : i + 5 ≤ N) (hmn : ∀ k, k < 5 → I 1 k = zmn k) {w v : Nat} (hRI : zRI R w v) {S : ZS} {nS nP nW len na kp n1 n2 : Nat} {T : Nat → Nat} {A A1 A2 : ZA} (hPI : zPI S nS nP nW len T na A kp n1 A1 n2 A2) (hCI : zCI I L w S nS nP nW len T na A kp n1 A1 n2 A2) (hMI : zMI I S nS nP nW len T na A kp n1 A1 n2 A2) (hx : ∀ I L R, zINV I L R → P 176 958 [.ref 0, .ref 2, .ref 119, .int (nI i)] [] I L R Q)  : P 176 262 [.ref 0, .ref 2, .ref 119, .int (nI i)] [] I L R Q := by
  refine r_al hP c176_262 rfl ?_
  refine r_al hP c176_263 rfl ?_
  refine r_il hP c176_264 rfl ?_
  refine r_ic hP c176_265 ?_
  refine r_iadd hP c176_266 ?_
  refine r_ti (y := nI (i + 1)) (nI_add i 1) ?_
  refine r_iald (j := i + 1) (x := I 0 (i + 1)) hP c176_267 hK0 rfl (by omega) rfl ?_
  refine r_al hP c176_268 rfl ?_
  refine r_il hP c176_269 rfl ?_
  refine r_ic hP c176_270 ?_
  refine r_iadd hP c176_271 ?_
  refine r_ti (y := nI (i + 2)) (nI_add i 2) ?_
  refine r_iald (j := i + 2) (x := I 0 (i + 2)) hP c176_272 hK0 rfl (by omega) rfl ?_
  refine r_cVip (as := [.int (I 0 (i + 1)), .int (I 0 (i + 2))]) (r := []) (a := 2) hP c176_273 rfl (zj2 hK) rfl (fun x I2 L2 R2 => x = (f_part S nP (I 0 (i + 1)) (I 0 (i + 2))) ∧ zCI I2 L2 w S nS nP nW len T na A kp n1 A1 n2 A2 ∧ zfE I I2 ∧ R = R2) (fun Q2 hq => p_part hP hK hRI hPI hCI (fun I2 L2 g1 g2 => hq _ I2 L2 _ ⟨rfl, g1, g2, rfl⟩)) ?_
  rintro _ I1 L1 _ ⟨rfl, hC1, hE1, rfl⟩
  refine r_al hP c176_276 rfl ?_
  refine r_al hP c176_277 rfl ?_
  refine r_il hP c176_278 rfl ?_
  refine r_ic hP c176_279 ?_
  refine r_iadd hP c176_280 ?_
  refine r_ti (y := nI (i + 1)) (nI_add i 1) ?_
  refine r_iald (j := i + 1) (x := I 0 (i + 1)) hP c176_281 hK0 rfl (by omega) (hE1 0 (i + 1) (Or.inl (by decide))) ?_
  refine r_al hP c176_282 rfl ?_
  refine r_il hP c176_283 rfl ?_
  refine r_ic hP c176_284 ?_
  refine r_iadd hP c176_285 ?_
  refine r_ti (y := nI (i + 2)) (nI_add i 2) ?_
  refine r_iald (j := i + 2) (x := I 0 (i + 2)) hP c176_286 hK0 rfl (by omega) (hE1 0 (i + 2) (Or.inl (by decide))) ?_
  refine r_cVip (as := [.int (I 0 (i + 1)), .int (I 0 (i + 2))]) (r := [.int (f_part S nP (I 0 (i + 1)) (I 0 (i + 2)))]) (a := 119) hP c176_287 rfl (zj119 hKb) rfl (fun x I2 L2 R2 => x = (f_part S nP (I 0 (i + 1)) (I 0 (i + 2))) ∧ zMI I2 S nS nP nW len T na A kp n1 A1 n2 A2 ∧ zfM I1 I2 ∧ zfM L1 L2 ∧ R = R2) (fun Q2 hq => q_part hP hKb hRI.2.1 hPI (zMI_E hMI hPI (fun a k q => hE1 a k (Or.inr q))) (fun I2 L2 g1 g2 g3 => hq _ I2 L2 _ ⟨rfl, g1, g2, g3, rfl⟩)) ?_
  rintro _ I2 L2 _ ⟨rfl, hM2, hf1, hf2, rfl⟩
  refine r_ieq hP c176_290 (fun h290 => ?_) (fun h290 => absurd h290 (not_not_intro rfl))
  have hPI2 : zPI S nS nP nW len T na A kp n1 A1 n2 A2 := hPI
  exact hx _ _ _ ⟨fun k hk => (hf1 1 k (by decide)).trans ((hE1 1 k (Or.inl (by decide))).trans (hmn k hk)), _, _, _, _, _, _, _, _, _, _, _, _, _, _, _, hRI, hPI2, zCI_M hC1 hRI.2.2.2.2.1 hPI2 hf1 hf2, hM2⟩
set_option maxRecDepth 4000 in
theorem l_hum {K : ZKh} {P : Nat → Nat → List Value → List Value → ZMi → ZMl → ZMr → ZRt → Prop} {I : ZMi} {L : ZMl} {R : ZMr} {Q : ZRt} (hP : ZCl K P) (hK : zKa K) (hKb : zKb K) {N i : Nat} (hK0 : K 0 = (30, N)) (hN : N ≤ 2560) (hi : i + 5 ≤ N) (hmn : ∀ k, k < 5 → I 1 k = zmn k) {w v : Nat} (hRI : zRI R w v) {S : ZS} {nS nP nW len na kp n1 n2 : Nat} {T : Nat → Nat} {A A1 A2 : ZA} (hPI : zPI S nS nP nW len T na A kp n1 A1 n2 A2) (hCI : zCI I L w S nS nP nW len T na A kp n1 A1 n2 A2) (hMI : zMI I S nS nP nW len T na A kp n1 A1 n2 A2) (hx : ∀ I L R, zINV I L R → P 176 958 [.ref 0, .ref 2, .ref 119, .int (nI i)] [] I L R Q)  : P 176 295 [.ref 0, .ref 2, .ref 119, .int (nI i)] [] I L R Q := by
  refine r_al hP c176_295 rfl ?_
  refine r_al hP c176_296 rfl ?_
  refine r_il hP c176_297 rfl ?_
  refine r_ic hP c176_298 ?_
  refine r_iadd hP c176_299 ?_
  refine r_ti (y := nI (i + 1)) (nI_add i 1) ?_
  refine r_iald (j := i + 1) (x := I 0 (i + 1)) hP c176_300 hK0 rfl (by omega) rfl ?_
  refine r_al hP c176_301 rfl ?_
  refine r_il hP c176_302 rfl ?_
  refine r_ic hP c176_303 ?_
  refine r_iadd hP c176_304 ?_
  refine r_ti (y := nI (i + 2)) (nI_add i 2) ?_
  refine r_iald (j := i + 2) (x := I 0 (i + 2)) hP c176_305 hK0 rfl (by omega) rfl ?_
  refine r_al hP c176_306 rfl ?_
  refine r_il hP c176_307 rfl ?_
  refine r_ic hP c176_308 ?_
  refine r_iadd hP c176_309 ?_
  refine r_ti (y := nI (i + 3)) (nI_add i 3) ?_
  refine r_iald (j := i + 3) (x := I 0 (i + 3)) hP c176_310 hK0 rfl (by omega) rfl ?_
  refine r_cVip (as := [.int (I 0 (i + 1)), .int (I 0 (i + 2)), .int (I 0 (i + 3))]) (r := []) (a := 2) hP c176_311 rfl (zj2 hK) rfl (fun x I2 L2 R2 => x = (f_hum S nS nP (I 0 (i + 1)) (I 0 (i + 2)) (I 0 (i + 3))) ∧ zCI I2 L2 w S nS nP nW len T na A kp n1 A1 n2 A2 ∧ zfE I I2 ∧ R = R2) (fun Q2 hq => p_hum hP hK hRI hPI hCI (fun I2 L2 g1 g2 => hq _ I2 L2 _ ⟨rfl, g1, g2, rfl⟩)) ?_
  rintro _ I1 L1 _ ⟨rfl, hC1, hE1, rfl⟩
  refine r_al hP c176_314 rfl ?_
  refine r_al hP c176_315 rfl ?_
  refine r_il hP c176_316 rfl ?_
  refine r_ic hP c176_317 ?_
  refine r_iadd hP c176_318 ?_
  refine r_ti (y := nI (i + 1)) (nI_add i 1) ?_
  refine r_iald (j := i + 1) (x := I 0 (i + 1)) hP c176_319 hK0 rfl (by omega) (hE1 0 (i + 1) (Or.inl (by decide))) ?_
  refine r_al hP c176_320 rfl ?_
  refine r_il hP c176_321 rfl ?_
  refine r_ic hP c176_322 ?_
  refine r_iadd hP c176_323 ?_
  refine r_ti (y := nI (i + 2)) (nI_add i 2) ?_
  refine r_iald (j := i + 2) (x := I 0 (i + 2)) hP c176_324 hK0 rfl (by omega) (hE1 0 (i + 2) (Or.inl (by decide))) ?_
  refine r_al hP c176_325 rfl ?_
  refine r_il hP c176_326 rfl ?_
  refine r_ic hP c176_327 ?_
  refine r_iadd hP c176_328 ?_
  refine r_ti (y := nI (i + 3)) (nI_add i 3) ?_
  refine r_iald (j := i + 3) (x := I 0 (i + 3)) hP c176_329 hK0 rfl (by omega) (hE1 0 (i + 3) (Or.inl (by decide))) ?_
  refine r_cVip (as := [.int (I 0 (i + 1)), .int (I 0 (i + 2)), .int (I 0 (i + 3))]) (r := [.int (f_hum S nS nP (I 0 (i + 1)) (I 0 (i + 2)) (I 0 (i + 3)))]) (a := 119) hP c176_330 rfl (zj119 hKb) rfl (fun x I2 L2 R2 => x = (f_hum S nS nP (I 0 (i + 1)) (I 0 (i + 2)) (I 0 (i + 3))) ∧ zMI I2 S nS nP nW len T na A kp n1 A1 n2 A2 ∧ zfM I1 I2 ∧ zfM L1 L2 ∧ R = R2) (fun Q2 hq => q_hum hP hKb hRI.2.1 hPI (zMI_E hMI hPI (fun a k q => hE1 a k (Or.inr q))) (fun I2 L2 g1 g2 g3 => hq _ I2 L2 _ ⟨rfl, g1, g2, g3, rfl⟩)) ?_
  rintro _ I2 L2 _ ⟨rfl, hM2, hf1, hf2, rfl⟩
  refine r_ieq hP c176_333 (fun h333 => ?_) (fun h333 => absurd h333 (not_not_intro rfl))
  have hPI2 : zPI S nS nP nW len T na A kp n1 A1 n2 A2 := hPI
  exact hx _ _ _ ⟨fun k hk => (hf1 1 k (by decide)).trans ((hE1 1 k (Or.inl (by decide))).trans (hmn k hk)), _, _, _, _, _, _, _, _, _, _, _, _, _, _, _, hRI, hPI2, zCI_M hC1 hRI.2.2.2.2.1 hPI2 hf1 hf2, hM2⟩
set_option maxRecDepth 4000 in
theorem l_in {K : ZKh} {P : Nat → Nat → List Value → List Value → ZMi → ZMl → ZMr → ZRt → Prop} {I : ZMi} {L : ZMl} {R : ZMr} {Q : ZRt} (hP : ZCl K P) (hK : zKa K) (hKb : zKb K) {N i : Nat} (hK0 : K 0 = (30, N)) (hN : N ≤ 2560) (hi : i + 5 ≤ N) (hmn : ∀ k, k < 5 → I 1 k = zmn k) {w v : Nat} (hRI : zRI R w v) {S : ZS} {nS nP nW len na kp n1 n2 : Nat} {T : Nat → Nat} {A A1 A2 : ZA} (hPI : zPI S nS nP nW len T na A kp n1 A1 n2 A2) (hCI : zCI I L w S nS nP nW len T na A kp n1 A1 n2 A2) (hMI : zMI I S nS nP nW len T na A kp n1 A1 n2 A2) (hx : ∀ I L R, zINV I L R → P 176 958 [.ref 0, .ref 2, .ref 119, .int (nI i)] [] I L R Q)  : P 176 338 [.ref 0, .ref 2, .ref 119, .int (nI i)] [] I L R Q := by
  refine r_al hP c176_338 rfl ?_
  refine r_al hP c176_339 rfl ?_
  refine r_il hP c176_340 rfl ?_
  refine r_ic hP c176_341 ?_
  refine r_iadd hP c176_342 ?_
  refine r_ti (y := nI (i + 1)) (nI_add i 1) ?_
  refine r_iald (j := i + 1) (x := I 0 (i + 1)) hP c176_343 hK0 rfl (by omega) rfl ?_
  refine r_al hP c176_344 rfl ?_
  refine r_il hP c176_345 rfl ?_
  refine r_ic hP c176_346 ?_
  refine r_iadd hP c176_347 ?_
  refine r_ti (y := nI (i + 2)) (nI_add i 2) ?_
  refine r_iald (j := i + 2) (x := I 0 (i + 2)) hP c176_348 hK0 rfl (by omega) rfl ?_
  refine r_al hP c176_349 rfl ?_
  refine r_il hP c176_350 rfl ?_
  refine r_ic hP c176_351 ?_
  refine r_iadd hP c176_352 ?_
  refine r_ti (y := nI (i + 3)) (nI_add i 3) ?_
  refine r_iald (j := i + 3) (x := I 0 (i + 3)) hP c176_353 hK0 rfl (by omega) rfl ?_
  refine r_al hP c176_354 rfl ?_
  refine r_il hP c176_355 rfl ?_
  refine r_ic hP c176_356 ?_
  refine r_iadd hP c176_357 ?_
  refine r_ti (y := nI (i + 4)) (nI_add i 4) ?_
  refine r_iald (j := i + 4) (x := I 0 (i + 4)) hP c176_358 hK0 rfl (by omega) rfl ?_
  refine r_cVip (as := [.int (I 0 (i + 1)), .int (I 0 (i + 2)), .int (I 0 (i + 3)), .int (I 0 (i + 4))]) (r := []) (a := 2) hP c176_359 rfl (zj2 hK) rfl (fun x I2 L2 R2 => x = (f_in S nS nP (I 0 (i + 1)) (I 0 (i + 2)) (I 0 (i + 3)) (I 0 (i + 4))) ∧ zCI I2 L2 w S nS nP nW len T na A kp n1 A1 n2 A2 ∧ zfE I I2 ∧ R = R2) (fun Q2 hq => p_in hP hK hRI hPI hCI (fun I2 L2 g1 g2 => hq _ I2 L2 _ ⟨rfl, g1, g2, rfl⟩)) ?_
  rintro _ I1 L1 _ ⟨rfl, hC1, hE1, rfl⟩
  refine r_al hP c176_362 rfl ?_
  refine r_al hP c176_363 rfl ?_
  refine r_il hP c176_364 rfl ?_
  refine r_ic hP c176_365 ?_
  refine r_iadd hP c176_366 ?_
  refine r_ti (y := nI (i + 1)) (nI_add i 1) ?_
  refine r_iald (j := i + 1) (x := I 0 (i + 1)) hP c176_367 hK0 rfl (by omega) (hE1 0 (i + 1) (Or.inl (by decide))) ?_
  refine r_al hP c176_368 rfl ?_
  refine r_il hP c176_369 rfl ?_
  refine r_ic hP c176_370 ?_
  refine r_iadd hP c176_371 ?_
  refine r_ti (y := nI (i + 2)) (nI_add i 2) ?_
  refine r_iald (j := i + 2) (x := I 0 (i + 2)) hP c176_372 hK0 rfl (by omega) (hE1 0 (i + 2) (Or.inl (by decide))) ?_
  refine r_al hP c176_373 rfl ?_
  refine r_il hP c176_374 rfl ?_
  refine r_ic hP c176_375 ?_
  refine r_iadd hP c176_376 ?_
  refine r_ti (y := nI (i + 3)) (nI_add i 3) ?_
  refine r_iald (j := i + 3) (x := I 0 (i + 3)) hP c176_377 hK0 rfl (by omega) (hE1 0 (i + 3) (Or.inl (by decide))) ?_
  refine r_al hP c176_378 rfl ?_
  refine r_il hP c176_379 rfl ?_
  refine r_ic hP c176_380 ?_
  refine r_iadd hP c176_381 ?_
  refine r_ti (y := nI (i + 4)) (nI_add i 4) ?_
  refine r_iald (j := i + 4) (x := I 0 (i + 4)) hP c176_382 hK0 rfl (by omega) (hE1 0 (i + 4) (Or.inl (by decide))) ?_
  refine r_cVip (as := [.int (I 0 (i + 1)), .int (I 0 (i + 2)), .int (I 0 (i + 3)), .int (I 0 (i + 4))]) (r := [.int (f_in S nS nP (I 0 (i + 1)) (I 0 (i + 2)) (I 0 (i + 3)) (I 0 (i + 4)))]) (a := 119) hP c176_383 rfl (zj119 hKb) rfl (fun x I2 L2 R2 => x = (f_in S nS nP (I 0 (i + 1)) (I 0 (i + 2)) (I 0 (i + 3)) (I 0 (i + 4))) ∧ zMI I2 S nS nP nW len T na A kp n1 A1 n2 A2 ∧ zfM I1 I2 ∧ zfM L1 L2 ∧ R = R2) (fun Q2 hq => q_in hP hKb hRI.2.1 hPI (zMI_E hMI hPI (fun a k q => hE1 a k (Or.inr q))) (fun I2 L2 g1 g2 g3 => hq _ I2 L2 _ ⟨rfl, g1, g2, g3, rfl⟩)) ?_
  rintro _ I2 L2 _ ⟨rfl, hM2, hf1, hf2, rfl⟩
  refine r_ieq hP c176_386 (fun h386 => ?_) (fun h386 => absurd h386 (not_not_intro rfl))
  have hPI2 : zPI S nS nP nW len T na A kp n1 A1 n2 A2 := hPI
  exact hx _ _ _ ⟨fun k hk => (hf1 1 k (by decide)).trans ((hE1 1 k (Or.inl (by decide))).trans (hmn k hk)), _, _, _, _, _, _, _, _, _, _, _, _, _, _, _, hRI, hPI2, zCI_M hC1 hRI.2.2.2.2.1 hPI2 hf1 hf2, hM2⟩
set_option maxRecDepth 4000 in
theorem l_heard {K : ZKh} {P : Nat → Nat → List Value → List Value → ZMi → ZMl → ZMr → ZRt → Prop} {I : ZMi} {L : ZMl} {R : ZMr} {Q : ZRt} (hP : ZCl K P) (hK : zKa K) (hKb : zKb K) {N i : Nat} (hK0 : K 0 = (30, N)) (hN : N ≤ 2560) (hi : i + 5 ≤ N) (hmn : ∀ k, k < 5 → I 1 k = zmn k) {w v : Nat} (hRI : zRI R w v) {S : ZS} {nS nP nW len na kp n1 n2 : Nat} {T : Nat → Nat} {A A1 A2 : ZA} (hPI : zPI S nS nP nW len T na A kp n1 A1 n2 A2) (hCI : zCI I L w S nS nP nW len T na A kp n1 A1 n2 A2) (hMI : zMI I S nS nP nW len T na A kp n1 A1 n2 A2) (hx : ∀ I L R, zINV I L R → P 176 958 [.ref 0, .ref 2, .ref 119, .int (nI i)] [] I L R Q)  : P 176 391 [.ref 0, .ref 2, .ref 119, .int (nI i)] [] I L R Q := by
  refine r_al hP c176_391 rfl ?_
  refine r_al hP c176_392 rfl ?_
  refine r_il hP c176_393 rfl ?_
  refine r_ic hP c176_394 ?_
  refine r_iadd hP c176_395 ?_
  refine r_ti (y := nI (i + 1)) (nI_add i 1) ?_
  refine r_iald (j := i + 1) (x := I 0 (i + 1)) hP c176_396 hK0 rfl (by omega) rfl ?_
  refine r_al hP c176_397 rfl ?_
  refine r_il hP c176_398 rfl ?_
  refine r_ic hP c176_399 ?_
  refine r_iadd hP c176_400 ?_
  refine r_ti (y := nI (i + 2)) (nI_add i 2) ?_
  refine r_iald (j := i + 2) (x := I 0 (i + 2)) hP c176_401 hK0 rfl (by omega) rfl ?_
  refine r_al hP c176_402 rfl ?_
  refine r_il hP c176_403 rfl ?_
  refine r_ic hP c176_404 ?_
  refine r_iadd hP c176_405 ?_
  refine r_ti (y := nI (i + 3)) (nI_add i 3) ?_
  refine r_iald (j := i + 3) (x := I 0 (i + 3)) hP c176_406 hK0 rfl (by omega) rfl ?_
  refine r_cVip (as := [.int (I 0 (i + 1)), .int (I 0 (i + 2)), .int (I 0 (i + 3))]) (r := []) (a := 2) hP c176_407 rfl (zj2 hK) rfl (fun x I2 L2 R2 => x = (f_heard S nS nP (I 0 (i + 1)) (I 0 (i + 2)) (I 0 (i + 3))) ∧ zCI I2 L2 w S nS nP nW len T na A kp n1 A1 n2 A2 ∧ zfE I I2 ∧ R = R2) (fun Q2 hq => p_heard hP hK hRI hPI hCI (fun I2 L2 g1 g2 => hq _ I2 L2 _ ⟨rfl, g1, g2, rfl⟩)) ?_
  rintro _ I1 L1 _ ⟨rfl, hC1, hE1, rfl⟩
  refine r_al hP c176_410 rfl ?_
  refine r_al hP c176_411 rfl ?_
  refine r_il hP c176_412 rfl ?_
  refine r_ic hP c176_413 ?_
  refine r_iadd hP c176_414 ?_
  refine r_ti (y := nI (i + 1)) (nI_add i 1) ?_
  refine r_iald (j := i + 1) (x := I 0 (i + 1)) hP c176_415 hK0 rfl (by omega) (hE1 0 (i + 1) (Or.inl (by decide))) ?_
  refine r_al hP c176_416 rfl ?_
  refine r_il hP c176_417 rfl ?_
  refine r_ic hP c176_418 ?_
  refine r_iadd hP c176_419 ?_
  refine r_ti (y := nI (i + 2)) (nI_add i 2) ?_
  refine r_iald (j := i + 2) (x := I 0 (i + 2)) hP c176_420 hK0 rfl (by omega) (hE1 0 (i + 2) (Or.inl (by decide))) ?_
  refine r_al hP c176_421 rfl ?_
  refine r_il hP c176_422 rfl ?_
  refine r_ic hP c176_423 ?_
  refine r_iadd hP c176_424 ?_
  refine r_ti (y := nI (i + 3)) (nI_add i 3) ?_
  refine r_iald (j := i + 3) (x := I 0 (i + 3)) hP c176_425 hK0 rfl (by omega) (hE1 0 (i + 3) (Or.inl (by decide))) ?_
  refine r_cVip (as := [.int (I 0 (i + 1)), .int (I 0 (i + 2)), .int (I 0 (i + 3))]) (r := [.int (f_heard S nS nP (I 0 (i + 1)) (I 0 (i + 2)) (I 0 (i + 3)))]) (a := 119) hP c176_426 rfl (zj119 hKb) rfl (fun x I2 L2 R2 => x = (f_heard S nS nP (I 0 (i + 1)) (I 0 (i + 2)) (I 0 (i + 3))) ∧ zMI I2 S nS nP nW len T na A kp n1 A1 n2 A2 ∧ zfM I1 I2 ∧ zfM L1 L2 ∧ R = R2) (fun Q2 hq => q_heard hP hKb hRI.2.1 hPI (zMI_E hMI hPI (fun a k q => hE1 a k (Or.inr q))) (fun I2 L2 g1 g2 g3 => hq _ I2 L2 _ ⟨rfl, g1, g2, g3, rfl⟩)) ?_
  rintro _ I2 L2 _ ⟨rfl, hM2, hf1, hf2, rfl⟩
  refine r_ieq hP c176_429 (fun h429 => ?_) (fun h429 => absurd h429 (not_not_intro rfl))
  have hPI2 : zPI S nS nP nW len T na A kp n1 A1 n2 A2 := hPI
  exact hx _ _ _ ⟨fun k hk => (hf1 1 k (by decide)).trans ((hE1 1 k (Or.inl (by decide))).trans (hmn k hk)), _, _, _, _, _, _, _, _, _, _, _, _, _, _, _, hRI, hPI2, zCI_M hC1 hRI.2.2.2.2.1 hPI2 hf1 hf2, hM2⟩
set_option maxRecDepth 4000 in
theorem l_ask {K : ZKh} {P : Nat → Nat → List Value → List Value → ZMi → ZMl → ZMr → ZRt → Prop} {I : ZMi} {L : ZMl} {R : ZMr} {Q : ZRt} (hP : ZCl K P) (hK : zKa K) (hKb : zKb K) {N i : Nat} (hK0 : K 0 = (30, N)) (hN : N ≤ 2560) (hi : i + 5 ≤ N) (hmn : ∀ k, k < 5 → I 1 k = zmn k) {w v : Nat} (hRI : zRI R w v) {S : ZS} {nS nP nW len na kp n1 n2 : Nat} {T : Nat → Nat} {A A1 A2 : ZA} (hPI : zPI S nS nP nW len T na A kp n1 A1 n2 A2) (hCI : zCI I L w S nS nP nW len T na A kp n1 A1 n2 A2) (hMI : zMI I S nS nP nW len T na A kp n1 A1 n2 A2) (hx : ∀ I L R, zINV I L R → P 176 958 [.ref 0, .ref 2, .ref 119, .int (nI i)] [] I L R Q)  : P 176 434 [.ref 0, .ref 2, .ref 119, .int (nI i)] [] I L R Q := by
  refine r_al hP c176_434 rfl ?_
  refine r_al hP c176_435 rfl ?_
  refine r_il hP c176_436 rfl ?_
  refine r_ic hP c176_437 ?_
  refine r_iadd hP c176_438 ?_
  refine r_ti (y := nI (i + 1)) (nI_add i 1) ?_
  refine r_iald (j := i + 1) (x := I 0 (i + 1)) hP c176_439 hK0 rfl (by omega) rfl ?_
  refine r_al hP c176_440 rfl ?_
  refine r_il hP c176_441 rfl ?_
  refine r_ic hP c176_442 ?_
  refine r_iadd hP c176_443 ?_
  refine r_ti (y := nI (i + 2)) (nI_add i 2) ?_
  refine r_iald (j := i + 2) (x := I 0 (i + 2)) hP c176_444 hK0 rfl (by omega) rfl ?_
  refine r_al hP c176_445 rfl ?_
  refine r_il hP c176_446 rfl ?_
  refine r_ic hP c176_447 ?_
  refine r_iadd hP c176_448 ?_
  refine r_ti (y := nI (i + 3)) (nI_add i 3) ?_
  refine r_iald (j := i + 3) (x := I 0 (i + 3)) hP c176_449 hK0 rfl (by omega) rfl ?_
  refine r_al hP c176_450 rfl ?_
  refine r_il hP c176_451 rfl ?_
  refine r_ic hP c176_452 ?_
  refine r_iadd hP c176_453 ?_
  refine r_ti (y := nI (i + 4)) (nI_add i 4) ?_
  refine r_iald (j := i + 4) (x := I 0 (i + 4)) hP c176_454 hK0 rfl (by omega) rfl ?_
  refine r_cVip (as := [.int (I 0 (i + 1)), .int (I 0 (i + 2)), .int (I 0 (i + 3)), .int (I 0 (i + 4))]) (r := []) (a := 2) hP c176_455 rfl (zj2 hK) rfl (fun x I2 L2 R2 => x = (f_ask S nS nP (I 0 (i + 1)) (I 0 (i + 2)) (I 0 (i + 3)) (I 0 (i + 4))) ∧ zCI I2 L2 w S nS nP nW len T na A kp n1 A1 n2 A2 ∧ zfE I I2 ∧ R = R2) (fun Q2 hq => p_ask hP hK hRI hPI hCI (fun I2 L2 g1 g2 => hq _ I2 L2 _ ⟨rfl, g1, g2, rfl⟩)) ?_
  rintro _ I1 L1 _ ⟨rfl, hC1, hE1, rfl⟩
  refine r_al hP c176_458 rfl ?_
  refine r_al hP c176_459 rfl ?_
  refine r_il hP c176_460 rfl ?_
  refine r_ic hP c176_461 ?_
  refine r_iadd hP c176_462 ?_
  refine r_ti (y := nI (i + 1)) (nI_add i 1) ?_
  refine r_iald (j := i + 1) (x := I 0 (i + 1)) hP c176_463 hK0 rfl (by omega) (hE1 0 (i + 1) (Or.inl (by decide))) ?_
  refine r_al hP c176_464 rfl ?_
  refine r_il hP c176_465 rfl ?_
  refine r_ic hP c176_466 ?_
  refine r_iadd hP c176_467 ?_
  refine r_ti (y := nI (i + 2)) (nI_add i 2) ?_
  refine r_iald (j := i + 2) (x := I 0 (i + 2)) hP c176_468 hK0 rfl (by omega) (hE1 0 (i + 2) (Or.inl (by decide))) ?_
  refine r_al hP c176_469 rfl ?_
  refine r_il hP c176_470 rfl ?_
  refine r_ic hP c176_471 ?_
  refine r_iadd hP c176_472 ?_
  refine r_ti (y := nI (i + 3)) (nI_add i 3) ?_
  refine r_iald (j := i + 3) (x := I 0 (i + 3)) hP c176_473 hK0 rfl (by omega) (hE1 0 (i + 3) (Or.inl (by decide))) ?_
  refine r_al hP c176_474 rfl ?_
  refine r_il hP c176_475 rfl ?_
  refine r_ic hP c176_476 ?_
  refine r_iadd hP c176_477 ?_
  refine r_ti (y := nI (i + 4)) (nI_add i 4) ?_
  refine r_iald (j := i + 4) (x := I 0 (i + 4)) hP c176_478 hK0 rfl (by omega) (hE1 0 (i + 4) (Or.inl (by decide))) ?_
  refine r_cVip (as := [.int (I 0 (i + 1)), .int (I 0 (i + 2)), .int (I 0 (i + 3)), .int (I 0 (i + 4))]) (r := [.int (f_ask S nS nP (I 0 (i + 1)) (I 0 (i + 2)) (I 0 (i + 3)) (I 0 (i + 4)))]) (a := 119) hP c176_479 rfl (zj119 hKb) rfl (fun x I2 L2 R2 => x = (f_ask S nS nP (I 0 (i + 1)) (I 0 (i + 2)) (I 0 (i + 3)) (I 0 (i + 4))) ∧ zMI I2 S nS nP nW len T na A kp n1 A1 n2 A2 ∧ zfM I1 I2 ∧ zfM L1 L2 ∧ R = R2) (fun Q2 hq => q_ask hP hKb hRI.2.1 hPI (zMI_E hMI hPI (fun a k q => hE1 a k (Or.inr q))) (fun I2 L2 g1 g2 g3 => hq _ I2 L2 _ ⟨rfl, g1, g2, g3, rfl⟩)) ?_
  rintro _ I2 L2 _ ⟨rfl, hM2, hf1, hf2, rfl⟩
  refine r_ieq hP c176_482 (fun h482 => ?_) (fun h482 => absurd h482 (not_not_intro rfl))
  have hPI2 : zPI S nS nP nW len T na A kp n1 A1 n2 A2 := hPI
  exact hx _ _ _ ⟨fun k hk => (hf1 1 k (by decide)).trans ((hE1 1 k (Or.inl (by decide))).trans (hmn k hk)), _, _, _, _, _, _, _, _, _, _, _, _, _, _, _, hRI, hPI2, zCI_M hC1 hRI.2.2.2.2.1 hPI2 hf1 hf2, hM2⟩
set_option maxRecDepth 4000 in
theorem l_risk {K : ZKh} {P : Nat → Nat → List Value → List Value → ZMi → ZMl → ZMr → ZRt → Prop} {I : ZMi} {L : ZMl} {R : ZMr} {Q : ZRt} (hP : ZCl K P) (hK : zKa K) (hKb : zKb K) {N i : Nat} (hK0 : K 0 = (30, N)) (hN : N ≤ 2560) (hi : i + 5 ≤ N) (hmn : ∀ k, k < 5 → I 1 k = zmn k) {w v : Nat} (hRI : zRI R w v) {S : ZS} {nS nP nW len na kp n1 n2 : Nat} {T : Nat → Nat} {A A1 A2 : ZA} (hPI : zPI S nS nP nW len T na A kp n1 A1 n2 A2) (hCI : zCI I L w S nS nP nW len T na A kp n1 A1 n2 A2) (hMI : zMI I S nS nP nW len T na A kp n1 A1 n2 A2) (hx : ∀ I L R, zINV I L R → P 176 958 [.ref 0, .ref 2, .ref 119, .int (nI i)] [] I L R Q)  : P 176 487 [.ref 0, .ref 2, .ref 119, .int (nI i)] [] I L R Q := by
  refine r_al hP c176_487 rfl ?_
  refine r_al hP c176_488 rfl ?_
  refine r_il hP c176_489 rfl ?_
  refine r_ic hP c176_490 ?_
  refine r_iadd hP c176_491 ?_
  refine r_ti (y := nI (i + 1)) (nI_add i 1) ?_
  refine r_iald (j := i + 1) (x := I 0 (i + 1)) hP c176_492 hK0 rfl (by omega) rfl ?_
  refine r_al hP c176_493 rfl ?_
  refine r_il hP c176_494 rfl ?_
  refine r_ic hP c176_495 ?_
  refine r_iadd hP c176_496 ?_
  refine r_ti (y := nI (i + 2)) (nI_add i 2) ?_
  refine r_iald (j := i + 2) (x := I 0 (i + 2)) hP c176_497 hK0 rfl (by omega) rfl ?_
  refine r_cVip (as := [.int (I 0 (i + 1)), .int (I 0 (i + 2))]) (r := []) (a := 2) hP c176_498 rfl (zj2 hK) rfl (fun x I2 L2 R2 => x = (f_risk S nS nP (I 0 (i + 1)) (I 0 (i + 2))) ∧ zCI I2 L2 w S nS nP nW len T na A kp n1 A1 n2 A2 ∧ zfE I I2 ∧ R = R2) (fun Q2 hq => p_risk hP hK hRI hPI hCI (fun I2 L2 g1 g2 => hq _ I2 L2 _ ⟨rfl, g1, g2, rfl⟩)) ?_
  rintro _ I1 L1 _ ⟨rfl, hC1, hE1, rfl⟩
  refine r_al hP c176_501 rfl ?_
  refine r_al hP c176_502 rfl ?_
  refine r_il hP c176_503 rfl ?_
  refine r_ic hP c176_504 ?_
  refine r_iadd hP c176_505 ?_
  refine r_ti (y := nI (i + 1)) (nI_add i 1) ?_
  refine r_iald (j := i + 1) (x := I 0 (i + 1)) hP c176_506 hK0 rfl (by omega) (hE1 0 (i + 1) (Or.inl (by decide))) ?_
  refine r_al hP c176_507 rfl ?_
  refine r_il hP c176_508 rfl ?_
  refine r_ic hP c176_509 ?_
  refine r_iadd hP c176_510 ?_
  refine r_ti (y := nI (i + 2)) (nI_add i 2) ?_
  refine r_iald (j := i + 2) (x := I 0 (i + 2)) hP c176_511 hK0 rfl (by omega) (hE1 0 (i + 2) (Or.inl (by decide))) ?_
  refine r_cVip (as := [.int (I 0 (i + 1)), .int (I 0 (i + 2))]) (r := [.int (f_risk S nS nP (I 0 (i + 1)) (I 0 (i + 2)))]) (a := 119) hP c176_512 rfl (zj119 hKb) rfl (fun x I2 L2 R2 => x = (f_risk S nS nP (I 0 (i + 1)) (I 0 (i + 2))) ∧ zMI I2 S nS nP nW len T na A kp n1 A1 n2 A2 ∧ zfM I1 I2 ∧ zfM L1 L2 ∧ R = R2) (fun Q2 hq => q_risk hP hKb hRI.2.1 hPI (zMI_E hMI hPI (fun a k q => hE1 a k (Or.inr q))) (fun I2 L2 g1 g2 g3 => hq _ I2 L2 _ ⟨rfl, g1, g2, g3, rfl⟩)) ?_
  rintro _ I2 L2 _ ⟨rfl, hM2, hf1, hf2, rfl⟩
  refine r_ieq hP c176_515 (fun h515 => ?_) (fun h515 => absurd h515 (not_not_intro rfl))
  have hPI2 : zPI S nS nP nW len T na A kp n1 A1 n2 A2 := hPI
  exact hx _ _ _ ⟨fun k hk => (hf1 1 k (by decide)).trans ((hE1 1 k (Or.inl (by decide))).trans (hmn k hk)), _, _, _, _, _, _, _, _, _, _, _, _, _, _, _, hRI, hPI2, zCI_M hC1 hRI.2.2.2.2.1 hPI2 hf1 hf2, hM2⟩
set_option maxRecDepth 4000 in
theorem l_volts {K : ZKh} {P : Nat → Nat → List Value → List Value → ZMi → ZMl → ZMr → ZRt → Prop} {I : ZMi} {L : ZMl} {R : ZMr} {Q : ZRt} (hP : ZCl K P) (hK : zKa K) (hKb : zKb K) {N i : Nat} (hK0 : K 0 = (30, N)) (hN : N ≤ 2560) (hi : i + 5 ≤ N) (hmn : ∀ k, k < 5 → I 1 k = zmn k) {w v : Nat} (hRI : zRI R w v) {S : ZS} {nS nP nW len na kp n1 n2 : Nat} {T : Nat → Nat} {A A1 A2 : ZA} (hPI : zPI S nS nP nW len T na A kp n1 A1 n2 A2) (hCI : zCI I L w S nS nP nW len T na A kp n1 A1 n2 A2) (hMI : zMI I S nS nP nW len T na A kp n1 A1 n2 A2) (hx : ∀ I L R, zINV I L R → P 176 958 [.ref 0, .ref 2, .ref 119, .int (nI i)] [] I L R Q)  : P 176 520 [.ref 0, .ref 2, .ref 119, .int (nI i)] [] I L R Q := by
  refine r_al hP c176_520 rfl ?_
  refine r_al hP c176_521 rfl ?_
  refine r_il hP c176_522 rfl ?_
  refine r_ic hP c176_523 ?_
  refine r_iadd hP c176_524 ?_
  refine r_ti (y := nI (i + 1)) (nI_add i 1) ?_
  refine r_iald (j := i + 1) (x := I 0 (i + 1)) hP c176_525 hK0 rfl (by omega) rfl ?_
  refine r_al hP c176_526 rfl ?_
  refine r_il hP c176_527 rfl ?_
  refine r_ic hP c176_528 ?_
  refine r_iadd hP c176_529 ?_
  refine r_ti (y := nI (i + 2)) (nI_add i 2) ?_
  refine r_iald (j := i + 2) (x := I 0 (i + 2)) hP c176_530 hK0 rfl (by omega) rfl ?_
  refine r_cVip (as := [.int (I 0 (i + 1)), .int (I 0 (i + 2))]) (r := []) (a := 2) hP c176_531 rfl (zj2 hK) rfl (fun x I2 L2 R2 => x = (f_volts S nP (I 0 (i + 1)) (I 0 (i + 2))) ∧ zCI I2 L2 w S nS nP nW len T na A kp n1 A1 n2 A2 ∧ zfE I I2 ∧ R = R2) (fun Q2 hq => p_volts hP hK hRI hPI hCI (fun I2 L2 g1 g2 => hq _ I2 L2 _ ⟨rfl, g1, g2, rfl⟩)) ?_
  rintro _ I1 L1 _ ⟨rfl, hC1, hE1, rfl⟩
  refine r_al hP c176_534 rfl ?_
  refine r_al hP c176_535 rfl ?_
  refine r_il hP c176_536 rfl ?_
  refine r_ic hP c176_537 ?_
  refine r_iadd hP c176_538 ?_
  refine r_ti (y := nI (i + 1)) (nI_add i 1) ?_
  refine r_iald (j := i + 1) (x := I 0 (i + 1)) hP c176_539 hK0 rfl (by omega) (hE1 0 (i + 1) (Or.inl (by decide))) ?_
  refine r_al hP c176_540 rfl ?_
  refine r_il hP c176_541 rfl ?_
  refine r_ic hP c176_542 ?_
  refine r_iadd hP c176_543 ?_
  refine r_ti (y := nI (i + 2)) (nI_add i 2) ?_
  refine r_iald (j := i + 2) (x := I 0 (i + 2)) hP c176_544 hK0 rfl (by omega) (hE1 0 (i + 2) (Or.inl (by decide))) ?_
  refine r_cVip (as := [.int (I 0 (i + 1)), .int (I 0 (i + 2))]) (r := [.int (f_volts S nP (I 0 (i + 1)) (I 0 (i + 2)))]) (a := 119) hP c176_545 rfl (zj119 hKb) rfl (fun x I2 L2 R2 => x = (f_volts S nP (I 0 (i + 1)) (I 0 (i + 2))) ∧ zMI I2 S nS nP nW len T na A kp n1 A1 n2 A2 ∧ zfM I1 I2 ∧ zfM L1 L2 ∧ R = R2) (fun Q2 hq => q_volts hP hKb hRI.2.1 hPI (zMI_E hMI hPI (fun a k q => hE1 a k (Or.inr q))) (fun I2 L2 g1 g2 g3 => hq _ I2 L2 _ ⟨rfl, g1, g2, g3, rfl⟩)) ?_
  rintro _ I2 L2 _ ⟨rfl, hM2, hf1, hf2, rfl⟩
  refine r_ieq hP c176_548 (fun h548 => ?_) (fun h548 => absurd h548 (not_not_intro rfl))
  have hPI2 : zPI S nS nP nW len T na A kp n1 A1 n2 A2 := hPI
  exact hx _ _ _ ⟨fun k hk => (hf1 1 k (by decide)).trans ((hE1 1 k (Or.inl (by decide))).trans (hmn k hk)), _, _, _, _, _, _, _, _, _, _, _, _, _, _, _, hRI, hPI2, zCI_M hC1 hRI.2.2.2.2.1 hPI2 hf1 hf2, hM2⟩
set_option maxRecDepth 4000 in
theorem l_safe {K : ZKh} {P : Nat → Nat → List Value → List Value → ZMi → ZMl → ZMr → ZRt → Prop} {I : ZMi} {L : ZMl} {R : ZMr} {Q : ZRt} (hP : ZCl K P) (hK : zKa K) (hKb : zKb K) {N i : Nat} (hK0 : K 0 = (30, N)) (hN : N ≤ 2560) (hi : i + 5 ≤ N) (hmn : ∀ k, k < 5 → I 1 k = zmn k) {w v : Nat} (hRI : zRI R w v) {S : ZS} {nS nP nW len na kp n1 n2 : Nat} {T : Nat → Nat} {A A1 A2 : ZA} (hPI : zPI S nS nP nW len T na A kp n1 A1 n2 A2) (hCI : zCI I L w S nS nP nW len T na A kp n1 A1 n2 A2) (hMI : zMI I S nS nP nW len T na A kp n1 A1 n2 A2) (hx : ∀ I L R, zINV I L R → P 176 958 [.ref 0, .ref 2, .ref 119, .int (nI i)] [] I L R Q)  : P 176 553 [.ref 0, .ref 2, .ref 119, .int (nI i)] [] I L R Q := by
  refine r_al hP c176_553 rfl ?_
  refine r_cVip (as := []) (r := []) (a := 2) hP c176_554 rfl (zj2 hK) rfl (fun x I2 L2 R2 => x = (if zmx (zfst S) nP ≤ 999 then nI (zmx (zfst S) nP) else -4) ∧ zCI I2 L2 w S nS nP nW len T na A kp n1 A1 n2 A2 ∧ zfE I I2 ∧ R = R2) (fun Q2 hq => p_safe hP hK hRI hPI hCI (fun I2 L2 g1 g2 => hq _ I2 L2 _ ⟨rfl, g1, g2, rfl⟩)) ?_
  rintro _ I1 L1 _ ⟨rfl, hC1, hE1, rfl⟩
  refine r_al hP c176_557 rfl ?_
  refine r_cVip (as := []) (r := [.int (if zmx (zfst S) nP ≤ 999 then nI (zmx (zfst S) nP) else -4)]) (a := 119) hP c176_558 rfl (zj119 hKb) rfl (fun x I2 L2 R2 => x = (if zmx (zfst S) nP ≤ 999 then nI (zmx (zfst S) nP) else -4) ∧ zMI I2 S nS nP nW len T na A kp n1 A1 n2 A2 ∧ zfM I1 I2 ∧ zfM L1 L2 ∧ R = R2) (fun Q2 hq => q_safe hP hKb hRI.2.1 hPI (zMI_E hMI hPI (fun a k q => hE1 a k (Or.inr q))) (fun I2 L2 g1 g2 g3 => hq _ I2 L2 _ ⟨rfl, g1, g2, g3, rfl⟩)) ?_
  rintro _ I2 L2 _ ⟨rfl, hM2, hf1, hf2, rfl⟩
  refine r_ieq hP c176_561 (fun h561 => ?_) (fun h561 => absurd h561 (not_not_intro rfl))
  have hPI2 : zPI S nS nP nW len T na A kp n1 A1 n2 A2 := hPI
  exact hx _ _ _ ⟨fun k hk => (hf1 1 k (by decide)).trans ((hE1 1 k (Or.inl (by decide))).trans (hmn k hk)), _, _, _, _, _, _, _, _, _, _, _, _, _, _, _, hRI, hPI2, zCI_M hC1 hRI.2.2.2.2.1 hPI2 hf1 hf2, hM2⟩
set_option maxRecDepth 4000 in
theorem l_possible {K : ZKh} {P : Nat → Nat → List Value → List Value → ZMi → ZMl → ZMr → ZRt → Prop} {I : ZMi} {L : ZMl} {R : ZMr} {Q : ZRt} (hP : ZCl K P) (hK : zKa K) (hKb : zKb K) {N i : Nat} (hK0 : K 0 = (30, N)) (hN : N ≤ 2560) (hi : i + 5 ≤ N) (hmn : ∀ k, k < 5 → I 1 k = zmn k) {w v : Nat} (hRI : zRI R w v) {S : ZS} {nS nP nW len na kp n1 n2 : Nat} {T : Nat → Nat} {A A1 A2 : ZA} (hPI : zPI S nS nP nW len T na A kp n1 A1 n2 A2) (hCI : zCI I L w S nS nP nW len T na A kp n1 A1 n2 A2) (hMI : zMI I S nS nP nW len T na A kp n1 A1 n2 A2) (hx : ∀ I L R, zINV I L R → P 176 958 [.ref 0, .ref 2, .ref 119, .int (nI i)] [] I L R Q)  : P 176 632 [.ref 0, .ref 2, .ref 119, .int (nI i)] [] I L R Q := by
  refine r_al hP c176_632 rfl ?_
  refine r_al hP c176_633 rfl ?_
  refine r_il hP c176_634 rfl ?_
  refine r_ic hP c176_635 ?_
  refine r_iadd hP c176_636 ?_
  refine r_ti (y := nI (i + 1)) (nI_add i 1) ?_
  refine r_iald (j := i + 1) (x := I 0 (i + 1)) hP c176_637 hK0 rfl (by omega) rfl ?_
  refine r_cVlp (as := [.int (I 0 (i + 1))]) (r := []) (a := 2) hP c176_638 rfl (zj2 hK) rfl (fun x I2 L2 R2 => x = (f_poss S nP (zps S nS nP A na) (I 0 (i + 1))) ∧ zCI I2 L2 w S nS nP nW len T na A kp n1 A1 n2 A2 ∧ zfE I I2 ∧ R = R2) (fun Q2 hq => p_possible hP hK hRI hPI hCI (fun I2 L2 g1 g2 => hq _ I2 L2 _ ⟨rfl, g1, g2, rfl⟩)) ?_
  rintro _ I1 L1 _ ⟨rfl, hC1, hE1, rfl⟩
  refine r_al hP c176_641 rfl ?_
  refine r_al hP c176_642 rfl ?_
  refine r_il hP c176_643 rfl ?_
  refine r_ic hP c176_644 ?_
  refine r_iadd hP c176_645 ?_
  refine r_ti (y := nI (i + 1)) (nI_add i 1) ?_
  refine r_iald (j := i + 1) (x := I 0 (i + 1)) hP c176_646 hK0 rfl (by omega) (hE1 0 (i + 1) (Or.inl (by decide))) ?_
  refine r_cVlp (as := [.int (I 0 (i + 1))]) (r := [.long (f_poss S nP (zps S nS nP A na) (I 0 (i + 1)))]) (a := 119) hP c176_647 rfl (zj119 hKb) rfl (fun x I2 L2 R2 => x = (f_poss S nP (zps S nS nP A na) (I 0 (i + 1))) ∧ zMI I2 S nS nP nW len T na A kp n1 A1 n2 A2 ∧ zfM I1 I2 ∧ zfM L1 L2 ∧ R = R2) (fun Q2 hq => q_possible hP hKb hRI.2.1 hPI (zMI_E hMI hPI (fun a k q => hE1 a k (Or.inr q))) (fun I2 L2 g1 g2 g3 => hq _ I2 L2 _ ⟨rfl, g1, g2, g3, rfl⟩)) ?_
  rintro _ I2 L2 _ ⟨rfl, hM2, hf1, hf2, rfl⟩
  refine r_lcmp hP c176_650 ?_
  refine r_ifeqL hP c176_651 (fun h651 => ?_) (fun h651 => absurd h651 (not_not_intro rfl))
  have hPI2 : zPI S nS nP nW len T na A kp n1 A1 n2 A2 := hPI
  exact hx _ _ _ ⟨fun k hk => (hf1 1 k (by decide)).trans ((hE1 1 k (Or.inl (by decide))).trans (hmn k hk)), _, _, _, _, _, _, _, _, _, _, _, _, _, _, _, hRI, hPI2, zCI_M hC1 hRI.2.2.2.2.1 hPI2 hf1 hf2, hM2⟩
set_option maxRecDepth 4000 in
theorem l_odds {K : ZKh} {P : Nat → Nat → List Value → List Value → ZMi → ZMl → ZMr → ZRt → Prop} {I : ZMi} {L : ZMl} {R : ZMr} {Q : ZRt} (hP : ZCl K P) (hK : zKa K) (hKb : zKb K) {N i : Nat} (hK0 : K 0 = (30, N)) (hN : N ≤ 2560) (hi : i + 5 ≤ N) (hmn : ∀ k, k < 5 → I 1 k = zmn k) {w v : Nat} (hRI : zRI R w v) {S : ZS} {nS nP nW len na kp n1 n2 : Nat} {T : Nat → Nat} {A A1 A2 : ZA} (hPI : zPI S nS nP nW len T na A kp n1 A1 n2 A2) (hCI : zCI I L w S nS nP nW len T na A kp n1 A1 n2 A2) (hMI : zMI I S nS nP nW len T na A kp n1 A1 n2 A2) (hx : ∀ I L R, zINV I L R → P 176 958 [.ref 0, .ref 2, .ref 119, .int (nI i)] [] I L R Q)  : P 176 656 [.ref 0, .ref 2, .ref 119, .int (nI i)] [] I L R Q := by
  refine r_al hP c176_656 rfl ?_
  refine r_al hP c176_657 rfl ?_
  refine r_il hP c176_658 rfl ?_
  refine r_ic hP c176_659 ?_
  refine r_iadd hP c176_660 ?_
  refine r_ti (y := nI (i + 1)) (nI_add i 1) ?_
  refine r_iald (j := i + 1) (x := I 0 (i + 1)) hP c176_661 hK0 rfl (by omega) rfl ?_
  refine r_al hP c176_662 rfl ?_
  refine r_il hP c176_663 rfl ?_
  refine r_ic hP c176_664 ?_
  refine r_iadd hP c176_665 ?_
  refine r_ti (y := nI (i + 2)) (nI_add i 2) ?_
  refine r_iald (j := i + 2) (x := I 0 (i + 2)) hP c176_666 hK0 rfl (by omega) rfl ?_
  refine r_cVlp (as := [.int (I 0 (i + 1)), .int (I 0 (i + 2))]) (r := []) (a := 2) hP c176_667 rfl (zj2 hK) rfl (fun x I2 L2 R2 => x = (f_odds S nP (zps S nS nP A na) (I 0 (i + 1)) (I 0 (i + 2))) ∧ zCI I2 L2 w S nS nP nW len T na A kp n1 A1 n2 A2 ∧ zfE I I2 ∧ R = R2) (fun Q2 hq => p_odds hP hK hRI hPI hCI (fun I2 L2 g1 g2 => hq _ I2 L2 _ ⟨rfl, g1, g2, rfl⟩)) ?_
  rintro _ I1 L1 _ ⟨rfl, hC1, hE1, rfl⟩
  refine r_al hP c176_670 rfl ?_
  refine r_al hP c176_671 rfl ?_
  refine r_il hP c176_672 rfl ?_
  refine r_ic hP c176_673 ?_
  refine r_iadd hP c176_674 ?_
  refine r_ti (y := nI (i + 1)) (nI_add i 1) ?_
  refine r_iald (j := i + 1) (x := I 0 (i + 1)) hP c176_675 hK0 rfl (by omega) (hE1 0 (i + 1) (Or.inl (by decide))) ?_
  refine r_al hP c176_676 rfl ?_
  refine r_il hP c176_677 rfl ?_
  refine r_ic hP c176_678 ?_
  refine r_iadd hP c176_679 ?_
  refine r_ti (y := nI (i + 2)) (nI_add i 2) ?_
  refine r_iald (j := i + 2) (x := I 0 (i + 2)) hP c176_680 hK0 rfl (by omega) (hE1 0 (i + 2) (Or.inl (by decide))) ?_
  refine r_cVlp (as := [.int (I 0 (i + 1)), .int (I 0 (i + 2))]) (r := [.long (f_odds S nP (zps S nS nP A na) (I 0 (i + 1)) (I 0 (i + 2)))]) (a := 119) hP c176_681 rfl (zj119 hKb) rfl (fun x I2 L2 R2 => x = (f_odds S nP (zps S nS nP A na) (I 0 (i + 1)) (I 0 (i + 2))) ∧ zMI I2 S nS nP nW len T na A kp n1 A1 n2 A2 ∧ zfM I1 I2 ∧ zfM L1 L2 ∧ R = R2) (fun Q2 hq => q_odds hP hKb hRI.2.1 hPI (zMI_E hMI hPI (fun a k q => hE1 a k (Or.inr q))) (fun I2 L2 g1 g2 g3 => hq _ I2 L2 _ ⟨rfl, g1, g2, g3, rfl⟩)) ?_
  rintro _ I2 L2 _ ⟨rfl, hM2, hf1, hf2, rfl⟩
  refine r_lcmp hP c176_684 ?_
  refine r_ifeqL hP c176_685 (fun h685 => ?_) (fun h685 => absurd h685 (not_not_intro rfl))
  have hPI2 : zPI S nS nP nW len T na A kp n1 A1 n2 A2 := hPI
  exact hx _ _ _ ⟨fun k hk => (hf1 1 k (by decide)).trans ((hE1 1 k (Or.inl (by decide))).trans (hmn k hk)), _, _, _, _, _, _, _, _, _, _, _, _, _, _, _, hRI, hPI2, zCI_M hC1 hRI.2.2.2.2.1 hPI2 hf1 hf2, hM2⟩
set_option maxRecDepth 4000 in
theorem l_likeliest {K : ZKh} {P : Nat → Nat → List Value → List Value → ZMi → ZMl → ZMr → ZRt → Prop} {I : ZMi} {L : ZMl} {R : ZMr} {Q : ZRt} (hP : ZCl K P) (hK : zKa K) (hKb : zKb K) {N i : Nat} (hK0 : K 0 = (30, N)) (hN : N ≤ 2560) (hi : i + 5 ≤ N) (hmn : ∀ k, k < 5 → I 1 k = zmn k) {w v : Nat} (hRI : zRI R w v) {S : ZS} {nS nP nW len na kp n1 n2 : Nat} {T : Nat → Nat} {A A1 A2 : ZA} (hPI : zPI S nS nP nW len T na A kp n1 A1 n2 A2) (hCI : zCI I L w S nS nP nW len T na A kp n1 A1 n2 A2) (hMI : zMI I S nS nP nW len T na A kp n1 A1 n2 A2) (hx : ∀ I L R, zINV I L R → P 176 958 [.ref 0, .ref 2, .ref 119, .int (nI i)] [] I L R Q)  : P 176 690 [.ref 0, .ref 2, .ref 119, .int (nI i)] [] I L R Q := by
  refine r_al hP c176_690 rfl ?_
  refine r_cVip (as := []) (r := []) (a := 2) hP c176_691 rfl (zj2 hK) rfl (fun x I2 L2 R2 => x = (zhv S nP (zps S nS nP A na)).1 ∧ zCI I2 L2 w S nS nP nW len T na A kp n1 A1 n2 A2 ∧ zfE I I2 ∧ R = R2) (fun Q2 hq => p_likeliest hP hK hRI hPI hCI (fun I2 L2 g1 g2 => hq _ I2 L2 _ ⟨rfl, g1, g2, rfl⟩)) ?_
  rintro _ I1 L1 _ ⟨rfl, hC1, hE1, rfl⟩
  refine r_al hP c176_694 rfl ?_
  refine r_cVip (as := []) (r := [.int ((zhv S nP (zps S nS nP A na)).1)]) (a := 119) hP c176_695 rfl (zj119 hKb) rfl (fun x I2 L2 R2 => x = (zhv S nP (zps S nS nP A na)).1 ∧ zMI I2 S nS nP nW len T na A kp n1 A1 n2 A2 ∧ zfM I1 I2 ∧ zfM L1 L2 ∧ R = R2) (fun Q2 hq => q_likeliest hP hKb hRI.2.1 hPI (zMI_E hMI hPI (fun a k q => hE1 a k (Or.inr q))) (fun I2 L2 g1 g2 g3 => hq _ I2 L2 _ ⟨rfl, g1, g2, g3, rfl⟩)) ?_
  rintro _ I2 L2 _ ⟨rfl, hM2, hf1, hf2, rfl⟩
  refine r_ieq hP c176_698 (fun h698 => ?_) (fun h698 => absurd h698 (not_not_intro rfl))
  have hPI2 : zPI S nS nP nW len T na A kp n1 A1 n2 A2 := hPI
  exact hx _ _ _ ⟨fun k hk => (hf1 1 k (by decide)).trans ((hE1 1 k (Or.inl (by decide))).trans (hmn k hk)), _, _, _, _, _, _, _, _, _, _, _, _, _, _, _, hRI, hPI2, zCI_M hC1 hRI.2.2.2.2.1 hPI2 hf1 hf2, hM2⟩
set_option maxRecDepth 4000 in
theorem l_next {K : ZKh} {P : Nat → Nat → List Value → List Value → ZMi → ZMl → ZMr → ZRt → Prop} {I : ZMi} {L : ZMl} {R : ZMr} {Q : ZRt} (hP : ZCl K P) (hK : zKa K) (hKb : zKb K) {N i : Nat} (hK0 : K 0 = (30, N)) (hN : N ≤ 2560) (hi : i + 5 ≤ N) (hmn : ∀ k, k < 5 → I 1 k = zmn k) {w v : Nat} (hRI : zRI R w v) {S : ZS} {nS nP nW len na kp n1 n2 : Nat} {T : Nat → Nat} {A A1 A2 : ZA} (hPI : zPI S nS nP nW len T na A kp n1 A1 n2 A2) (hCI : zCI I L w S nS nP nW len T na A kp n1 A1 n2 A2) (hMI : zMI I S nS nP nW len T na A kp n1 A1 n2 A2) (hx : ∀ I L R, zINV I L R → P 176 958 [.ref 0, .ref 2, .ref 119, .int (nI i)] [] I L R Q)  : P 176 703 [.ref 0, .ref 2, .ref 119, .int (nI i)] [] I L R Q := by
  refine r_al hP c176_703 rfl ?_
  refine r_al hP c176_704 rfl ?_
  refine r_il hP c176_705 rfl ?_
  refine r_ic hP c176_706 ?_
  refine r_iadd hP c176_707 ?_
  refine r_ti (y := nI (i + 1)) (nI_add i 1) ?_
  refine r_iald (j := i + 1) (x := I 0 (i + 1)) hP c176_708 hK0 rfl (by omega) rfl ?_
  refine r_al hP c176_709 rfl ?_
  refine r_il hP c176_710 rfl ?_
  refine r_ic hP c176_711 ?_
  refine r_iadd hP c176_712 ?_
  refine r_ti (y := nI (i + 2)) (nI_add i 2) ?_
  refine r_iald (j := i + 2) (x := I 0 (i + 2)) hP c176_713 hK0 rfl (by omega) rfl ?_
  refine r_cVlp (as := [.int (I 0 (i + 1)), .int (I 0 (i + 2))]) (r := []) (a := 2) hP c176_714 rfl (zj2 hK) rfl (fun x I2 L2 R2 => x = (f_next S nS nP (zps S nS nP A na) (I 0 (i + 1)) (I 0 (i + 2))) ∧ zCI I2 L2 w S nS nP nW len T na A kp n1 A1 n2 A2 ∧ zfE I I2 ∧ R = R2) (fun Q2 hq => p_next hP hK hRI hPI hCI hmn (fun I2 L2 g1 g2 => hq _ I2 L2 _ ⟨rfl, g1, g2, rfl⟩)) ?_
  rintro _ I1 L1 _ ⟨rfl, hC1, hE1, rfl⟩
  refine r_al hP c176_717 rfl ?_
  refine r_al hP c176_718 rfl ?_
  refine r_il hP c176_719 rfl ?_
  refine r_ic hP c176_720 ?_
  refine r_iadd hP c176_721 ?_
  refine r_ti (y := nI (i + 1)) (nI_add i 1) ?_
  refine r_iald (j := i + 1) (x := I 0 (i + 1)) hP c176_722 hK0 rfl (by omega) (hE1 0 (i + 1) (Or.inl (by decide))) ?_
  refine r_al hP c176_723 rfl ?_
  refine r_il hP c176_724 rfl ?_
  refine r_ic hP c176_725 ?_
  refine r_iadd hP c176_726 ?_
  refine r_ti (y := nI (i + 2)) (nI_add i 2) ?_
  refine r_iald (j := i + 2) (x := I 0 (i + 2)) hP c176_727 hK0 rfl (by omega) (hE1 0 (i + 2) (Or.inl (by decide))) ?_
  refine r_cVlp (as := [.int (I 0 (i + 1)), .int (I 0 (i + 2))]) (r := [.long (f_next S nS nP (zps S nS nP A na) (I 0 (i + 1)) (I 0 (i + 2)))]) (a := 119) hP c176_728 rfl (zj119 hKb) rfl (fun x I2 L2 R2 => x = (f_next S nS nP (zps S nS nP A na) (I 0 (i + 1)) (I 0 (i + 2))) ∧ zMI I2 S nS nP nW len T na A kp n1 A1 n2 A2 ∧ zfM I1 I2 ∧ zfM L1 L2 ∧ R = R2) (fun Q2 hq => q_next hP hKb hRI.2.1 hPI (zMI_E hMI hPI (fun a k q => hE1 a k (Or.inr q))) (fun I2 L2 g1 g2 g3 => hq _ I2 L2 _ ⟨rfl, g1, g2, g3, rfl⟩)) ?_
  rintro _ I2 L2 _ ⟨rfl, hM2, hf1, hf2, rfl⟩
  refine r_lcmp hP c176_731 ?_
  refine r_ifeqL hP c176_732 (fun h732 => ?_) (fun h732 => absurd h732 (not_not_intro rfl))
  have hPI2 : zPI S nS nP nW len T na A kp n1 A1 n2 A2 := hPI
  exact hx _ _ _ ⟨fun k hk => (hf1 1 k (by decide)).trans ((hE1 1 k (Or.inl (by decide))).trans (hmn k hk)), _, _, _, _, _, _, _, _, _, _, _, _, _, _, _, hRI, hPI2, zCI_M hC1 hRI.2.2.2.2.1 hPI2 hf1 hf2, hM2⟩
set_option maxRecDepth 4000 in
theorem l_change {K : ZKh} {P : Nat → Nat → List Value → List Value → ZMi → ZMl → ZMr → ZRt → Prop} {I : ZMi} {L : ZMl} {R : ZMr} {Q : ZRt} (hP : ZCl K P) (hK : zKa K) (hKb : zKb K) {N i : Nat} (hK0 : K 0 = (30, N)) (hN : N ≤ 2560) (hi : i + 5 ≤ N) (hmn : ∀ k, k < 5 → I 1 k = zmn k) {w v : Nat} (hRI : zRI R w v) {S : ZS} {nS nP nW len na kp n1 n2 : Nat} {T : Nat → Nat} {A A1 A2 : ZA} (hPI : zPI S nS nP nW len T na A kp n1 A1 n2 A2) (hCI : zCI I L w S nS nP nW len T na A kp n1 A1 n2 A2) (hMI : zMI I S nS nP nW len T na A kp n1 A1 n2 A2) (hx : ∀ I L R, zINV I L R → P 176 958 [.ref 0, .ref 2, .ref 119, .int (nI i)] [] I L R Q)  : P 176 737 [.ref 0, .ref 2, .ref 119, .int (nI i)] [] I L R Q := by
  refine r_al hP c176_737 rfl ?_
  refine r_al hP c176_738 rfl ?_
  refine r_il hP c176_739 rfl ?_
  refine r_ic hP c176_740 ?_
  refine r_iadd hP c176_741 ?_
  refine r_ti (y := nI (i + 1)) (nI_add i 1) ?_
  refine r_iald (j := i + 1) (x := I 0 (i + 1)) hP c176_742 hK0 rfl (by omega) rfl ?_
  refine r_al hP c176_743 rfl ?_
  refine r_il hP c176_744 rfl ?_
  refine r_ic hP c176_745 ?_
  refine r_iadd hP c176_746 ?_
  refine r_ti (y := nI (i + 2)) (nI_add i 2) ?_
  refine r_iald (j := i + 2) (x := I 0 (i + 2)) hP c176_747 hK0 rfl (by omega) rfl ?_
  refine r_cVip (as := [.int (I 0 (i + 1)), .int (I 0 (i + 2))]) (r := []) (a := 2) hP c176_748 rfl (zj2 hK) rfl (fun x I2 L2 R2 => x = (f_change S nS nP (zps S nS nP A na) (I 0 (i + 1)) (I 0 (i + 2))) ∧ zCI I2 L2 w S nS nP nW len T na A kp n1 A1 n2 A2 ∧ zfE I I2 ∧ R = R2) (fun Q2 hq => p_change hP hK hRI hPI hCI (fun I2 L2 g1 g2 => hq _ I2 L2 _ ⟨rfl, g1, g2, rfl⟩)) ?_
  rintro _ I1 L1 _ ⟨rfl, hC1, hE1, rfl⟩
  refine r_al hP c176_751 rfl ?_
  refine r_al hP c176_752 rfl ?_
  refine r_il hP c176_753 rfl ?_
  refine r_ic hP c176_754 ?_
  refine r_iadd hP c176_755 ?_
  refine r_ti (y := nI (i + 1)) (nI_add i 1) ?_
  refine r_iald (j := i + 1) (x := I 0 (i + 1)) hP c176_756 hK0 rfl (by omega) (hE1 0 (i + 1) (Or.inl (by decide))) ?_
  refine r_al hP c176_757 rfl ?_
  refine r_il hP c176_758 rfl ?_
  refine r_ic hP c176_759 ?_
  refine r_iadd hP c176_760 ?_
  refine r_ti (y := nI (i + 2)) (nI_add i 2) ?_
  refine r_iald (j := i + 2) (x := I 0 (i + 2)) hP c176_761 hK0 rfl (by omega) (hE1 0 (i + 2) (Or.inl (by decide))) ?_
  refine r_cVip (as := [.int (I 0 (i + 1)), .int (I 0 (i + 2))]) (r := [.int (f_change S nS nP (zps S nS nP A na) (I 0 (i + 1)) (I 0 (i + 2)))]) (a := 119) hP c176_762 rfl (zj119 hKb) rfl (fun x I2 L2 R2 => x = (f_change S nS nP (zps S nS nP A na) (I 0 (i + 1)) (I 0 (i + 2))) ∧ zMI I2 S nS nP nW len T na A kp n1 A1 n2 A2 ∧ zfM I1 I2 ∧ zfM L1 L2 ∧ R = R2) (fun Q2 hq => q_change hP hKb hRI.2.1 hPI (zMI_E hMI hPI (fun a k q => hE1 a k (Or.inr q))) (fun I2 L2 g1 g2 g3 => hq _ I2 L2 _ ⟨rfl, g1, g2, g3, rfl⟩)) ?_
  rintro _ I2 L2 _ ⟨rfl, hM2, hf1, hf2, rfl⟩
  refine r_ieq hP c176_765 (fun h765 => ?_) (fun h765 => absurd h765 (not_not_intro rfl))
  have hPI2 : zPI S nS nP nW len T na A kp n1 A1 n2 A2 := hPI
  exact hx _ _ _ ⟨fun k hk => (hf1 1 k (by decide)).trans ((hE1 1 k (Or.inl (by decide))).trans (hmn k hk)), _, _, _, _, _, _, _, _, _, _, _, _, _, _, _, hRI, hPI2, zCI_M hC1 hRI.2.2.2.2.1 hPI2 hf1 hf2, hM2⟩
set_option maxRecDepth 4000 in
theorem l_obo {K : ZKh} {P : Nat → Nat → List Value → List Value → ZMi → ZMl → ZMr → ZRt → Prop} {I : ZMi} {L : ZMl} {R : ZMr} {Q : ZRt} (hP : ZCl K P) (hK : zKa K) (hKb : zKb K) {N i : Nat} (hK0 : K 0 = (30, N)) (hN : N ≤ 2560) (hi : i + 5 ≤ N) (hmn : ∀ k, k < 5 → I 1 k = zmn k) {w v : Nat} (hRI : zRI R w v) {S : ZS} {nS nP nW len na kp n1 n2 : Nat} {T : Nat → Nat} {A A1 A2 : ZA} (hPI : zPI S nS nP nW len T na A kp n1 A1 n2 A2) (hCI : zCI I L w S nS nP nW len T na A kp n1 A1 n2 A2) (hMI : zMI I S nS nP nW len T na A kp n1 A1 n2 A2) (hx : ∀ I L R, zINV I L R → P 176 958 [.ref 0, .ref 2, .ref 119, .int (nI i)] [] I L R Q)  : P 176 770 [.ref 0, .ref 2, .ref 119, .int (nI i)] [] I L R Q := by
  refine r_al hP c176_770 rfl ?_
  refine r_al hP c176_771 rfl ?_
  refine r_il hP c176_772 rfl ?_
  refine r_ic hP c176_773 ?_
  refine r_iadd hP c176_774 ?_
  refine r_ti (y := nI (i + 1)) (nI_add i 1) ?_
  refine r_iald (j := i + 1) (x := I 0 (i + 1)) hP c176_775 hK0 rfl (by omega) rfl ?_
  refine r_cVlp (as := [.int (I 0 (i + 1))]) (r := []) (a := 2) hP c176_776 rfl (zj2 hK) rfl (fun x I2 L2 R2 => x = (f_obo S nS nP (zps S nS nP A na) (I 0 (i + 1))) ∧ zCI I2 L2 w S nS nP nW len T na A kp n1 A1 n2 A2 ∧ zfE I I2 ∧ R = R2) (fun Q2 hq => p_obo hP hK hRI hPI hCI (fun I2 L2 g1 g2 => hq _ I2 L2 _ ⟨rfl, g1, g2, rfl⟩)) ?_
  rintro _ I1 L1 _ ⟨rfl, hC1, hE1, rfl⟩
  refine r_al hP c176_779 rfl ?_
  refine r_al hP c176_780 rfl ?_
  refine r_il hP c176_781 rfl ?_
  refine r_ic hP c176_782 ?_
  refine r_iadd hP c176_783 ?_
  refine r_ti (y := nI (i + 1)) (nI_add i 1) ?_
  refine r_iald (j := i + 1) (x := I 0 (i + 1)) hP c176_784 hK0 rfl (by omega) (hE1 0 (i + 1) (Or.inl (by decide))) ?_
  refine r_cVlp (as := [.int (I 0 (i + 1))]) (r := [.long (f_obo S nS nP (zps S nS nP A na) (I 0 (i + 1)))]) (a := 119) hP c176_785 rfl (zj119 hKb) rfl (fun x I2 L2 R2 => x = (f_obo S nS nP (zps S nS nP A na) (I 0 (i + 1))) ∧ zMI I2 S nS nP nW len T na A kp n1 A1 n2 A2 ∧ zfM I1 I2 ∧ zfM L1 L2 ∧ R = R2) (fun Q2 hq => q_obo hP hKb hRI.2.1 hPI (zMI_E hMI hPI (fun a k q => hE1 a k (Or.inr q))) (fun I2 L2 g1 g2 g3 => hq _ I2 L2 _ ⟨rfl, g1, g2, g3, rfl⟩)) ?_
  rintro _ I2 L2 _ ⟨rfl, hM2, hf1, hf2, rfl⟩
  refine r_lcmp hP c176_788 ?_
  refine r_ifeqL hP c176_789 (fun h789 => ?_) (fun h789 => absurd h789 (not_not_intro rfl))
  have hPI2 : zPI S nS nP nW len T na A kp n1 A1 n2 A2 := hPI
  exact hx _ _ _ ⟨fun k hk => (hf1 1 k (by decide)).trans ((hE1 1 k (Or.inl (by decide))).trans (hmn k hk)), _, _, _, _, _, _, _, _, _, _, _, _, _, _, _, hRI, hPI2, zCI_M hC1 hRI.2.2.2.2.1 hPI2 hf1 hf2, hM2⟩
set_option maxRecDepth 4000 in
theorem l_louder {K : ZKh} {P : Nat → Nat → List Value → List Value → ZMi → ZMl → ZMr → ZRt → Prop} {I : ZMi} {L : ZMl} {R : ZMr} {Q : ZRt} (hP : ZCl K P) (hK : zKa K) (hKb : zKb K) {N i : Nat} (hK0 : K 0 = (30, N)) (hN : N ≤ 2560) (hi : i + 5 ≤ N) (hmn : ∀ k, k < 5 → I 1 k = zmn k) {w v : Nat} (hRI : zRI R w v) {S : ZS} {nS nP nW len na kp n1 n2 : Nat} {T : Nat → Nat} {A A1 A2 : ZA} (hPI : zPI S nS nP nW len T na A kp n1 A1 n2 A2) (hCI : zCI I L w S nS nP nW len T na A kp n1 A1 n2 A2) (hMI : zMI I S nS nP nW len T na A kp n1 A1 n2 A2) (hx : ∀ I L R, zINV I L R → P 176 958 [.ref 0, .ref 2, .ref 119, .int (nI i)] [] I L R Q)  : P 176 794 [.ref 0, .ref 2, .ref 119, .int (nI i)] [] I L R Q := by
  refine r_al hP c176_794 rfl ?_
  refine r_al hP c176_795 rfl ?_
  refine r_il hP c176_796 rfl ?_
  refine r_ic hP c176_797 ?_
  refine r_iadd hP c176_798 ?_
  refine r_ti (y := nI (i + 1)) (nI_add i 1) ?_
  refine r_iald (j := i + 1) (x := I 0 (i + 1)) hP c176_799 hK0 rfl (by omega) rfl ?_
  refine r_cVip (as := [.int (I 0 (i + 1))]) (r := []) (a := 2) hP c176_800 rfl (zj2 hK) rfl (fun x I2 L2 R2 => x = (f_louder S nS nP (I 0 (i + 1))) ∧ zCI I2 L2 w S nS nP nW len T na A kp n1 A1 n2 A2 ∧ zfE I I2 ∧ R = R2) (fun Q2 hq => p_louder hP hK hRI hPI hCI (fun I2 L2 g1 g2 => hq _ I2 L2 _ ⟨rfl, g1, g2, rfl⟩)) ?_
  rintro _ I1 L1 _ ⟨rfl, hC1, hE1, rfl⟩
  refine r_al hP c176_803 rfl ?_
  refine r_al hP c176_804 rfl ?_
  refine r_il hP c176_805 rfl ?_
  refine r_ic hP c176_806 ?_
  refine r_iadd hP c176_807 ?_
  refine r_ti (y := nI (i + 1)) (nI_add i 1) ?_
  refine r_iald (j := i + 1) (x := I 0 (i + 1)) hP c176_808 hK0 rfl (by omega) (hE1 0 (i + 1) (Or.inl (by decide))) ?_
  refine r_cVip (as := [.int (I 0 (i + 1))]) (r := [.int (f_louder S nS nP (I 0 (i + 1)))]) (a := 119) hP c176_809 rfl (zj119 hKb) rfl (fun x I2 L2 R2 => x = (f_louder S nS nP (I 0 (i + 1))) ∧ zMI I2 S nS nP nW len T na A kp n1 A1 n2 A2 ∧ zfM I1 I2 ∧ zfM L1 L2 ∧ R = R2) (fun Q2 hq => q_louder hP hKb hRI.2.1 hPI (zMI_E hMI hPI (fun a k q => hE1 a k (Or.inr q))) (fun I2 L2 g1 g2 g3 => hq _ I2 L2 _ ⟨rfl, g1, g2, g3, rfl⟩)) ?_
  rintro _ I2 L2 _ ⟨rfl, hM2, hf1, hf2, rfl⟩
  refine r_ieq hP c176_812 (fun h812 => ?_) (fun h812 => absurd h812 (not_not_intro rfl))
  have hPI2 : zPI S nS nP nW len T na A kp n1 A1 n2 A2 := hPI
  exact hx _ _ _ ⟨fun k hk => (hf1 1 k (by decide)).trans ((hE1 1 k (Or.inl (by decide))).trans (hmn k hk)), _, _, _, _, _, _, _, _, _, _, _, _, _, _, _, hRI, hPI2, zCI_M hC1 hRI.2.2.2.2.1 hPI2 hf1 hf2, hM2⟩
set_option maxRecDepth 4000 in
theorem l_howls {K : ZKh} {P : Nat → Nat → List Value → List Value → ZMi → ZMl → ZMr → ZRt → Prop} {I : ZMi} {L : ZMl} {R : ZMr} {Q : ZRt} (hP : ZCl K P) (hK : zKa K) (hKb : zKb K) {N i : Nat} (hK0 : K 0 = (30, N)) (hN : N ≤ 2560) (hi : i + 5 ≤ N) (hmn : ∀ k, k < 5 → I 1 k = zmn k) {w v : Nat} (hRI : zRI R w v) {S : ZS} {nS nP nW len na kp n1 n2 : Nat} {T : Nat → Nat} {A A1 A2 : ZA} (hPI : zPI S nS nP nW len T na A kp n1 A1 n2 A2) (hCI : zCI I L w S nS nP nW len T na A kp n1 A1 n2 A2) (hMI : zMI I S nS nP nW len T na A kp n1 A1 n2 A2) (hx : ∀ I L R, zINV I L R → P 176 958 [.ref 0, .ref 2, .ref 119, .int (nI i)] [] I L R Q)  : P 176 817 [.ref 0, .ref 2, .ref 119, .int (nI i)] [] I L R Q := by
  refine r_al hP c176_817 rfl ?_
  refine r_cVip (as := []) (r := []) (a := 2) hP c176_818 rfl (zj2 hK) rfl (fun x I2 L2 R2 => x = (zhw S nS nW) ∧ zCI I2 L2 w S nS nP nW len T na A kp n1 A1 n2 A2 ∧ zfE I I2 ∧ R = R2) (fun Q2 hq => p_howls hP hK hRI hPI hCI (fun I2 L2 g1 g2 => hq _ I2 L2 _ ⟨rfl, g1, g2, rfl⟩)) ?_
  rintro _ I1 L1 _ ⟨rfl, hC1, hE1, rfl⟩
  refine r_al hP c176_821 rfl ?_
  refine r_cVip (as := []) (r := [.int (zhw S nS nW)]) (a := 119) hP c176_822 rfl (zj119 hKb) rfl (fun x I2 L2 R2 => x = (zhw S nS nW) ∧ zMI I2 S nS nP nW len T na A kp n1 A1 n2 A2 ∧ zfM I1 I2 ∧ zfM L1 L2 ∧ R = R2) (fun Q2 hq => q_howls hP hKb hRI.2.1 hPI (zMI_E hMI hPI (fun a k q => hE1 a k (Or.inr q))) (fun I2 L2 g1 g2 g3 => hq _ I2 L2 _ ⟨rfl, g1, g2, g3, rfl⟩)) ?_
  rintro _ I2 L2 _ ⟨rfl, hM2, hf1, hf2, rfl⟩
  refine r_ieq hP c176_825 (fun h825 => ?_) (fun h825 => absurd h825 (not_not_intro rfl))
  have hPI2 : zPI S nS nP nW len T na A kp n1 A1 n2 A2 := hPI
  exact hx _ _ _ ⟨fun k hk => (hf1 1 k (by decide)).trans ((hE1 1 k (Or.inl (by decide))).trans (hmn k hk)), _, _, _, _, _, _, _, _, _, _, _, _, _, _, _, hRI, hPI2, zCI_M hC1 hRI.2.2.2.2.1 hPI2 hf1 hf2, hM2⟩
set_option maxRecDepth 4000 in
theorem l_goes {K : ZKh} {P : Nat → Nat → List Value → List Value → ZMi → ZMl → ZMr → ZRt → Prop} {I : ZMi} {L : ZMl} {R : ZMr} {Q : ZRt} (hP : ZCl K P) (hK : zKa K) (hKb : zKb K) {N i : Nat} (hK0 : K 0 = (30, N)) (hN : N ≤ 2560) (hi : i + 5 ≤ N) (hmn : ∀ k, k < 5 → I 1 k = zmn k) {w v : Nat} (hRI : zRI R w v) {S : ZS} {nS nP nW len na kp n1 n2 : Nat} {T : Nat → Nat} {A A1 A2 : ZA} (hPI : zPI S nS nP nW len T na A kp n1 A1 n2 A2) (hCI : zCI I L w S nS nP nW len T na A kp n1 A1 n2 A2) (hMI : zMI I S nS nP nW len T na A kp n1 A1 n2 A2) (hx : ∀ I L R, zINV I L R → P 176 958 [.ref 0, .ref 2, .ref 119, .int (nI i)] [] I L R Q)  : P 176 830 [.ref 0, .ref 2, .ref 119, .int (nI i)] [] I L R Q := by
  refine r_al hP c176_830 rfl ?_
  refine r_al hP c176_831 rfl ?_
  refine r_il hP c176_832 rfl ?_
  refine r_ic hP c176_833 ?_
  refine r_iadd hP c176_834 ?_
  refine r_ti (y := nI (i + 1)) (nI_add i 1) ?_
  refine r_iald (j := i + 1) (x := I 0 (i + 1)) hP c176_835 hK0 rfl (by omega) rfl ?_
  refine r_al hP c176_836 rfl ?_
  refine r_il hP c176_837 rfl ?_
  refine r_ic hP c176_838 ?_
  refine r_iadd hP c176_839 ?_
  refine r_ti (y := nI (i + 2)) (nI_add i 2) ?_
  refine r_iald (j := i + 2) (x := I 0 (i + 2)) hP c176_840 hK0 rfl (by omega) rfl ?_
  refine r_cVip (as := [.int (I 0 (i + 1)), .int (I 0 (i + 2))]) (r := []) (a := 2) hP c176_841 rfl (zj2 hK) rfl (fun x I2 L2 R2 => x = (f_goes S nP (I 0 (i + 1)) (I 0 (i + 2))) ∧ zCI I2 L2 w S nS nP nW len T na A kp n1 A1 n2 A2 ∧ zfE I I2 ∧ R = R2) (fun Q2 hq => p_goes hP hK hRI hPI hCI (fun I2 L2 g1 g2 => hq _ I2 L2 _ ⟨rfl, g1, g2, rfl⟩)) ?_
  rintro _ I1 L1 _ ⟨rfl, hC1, hE1, rfl⟩
  refine r_al hP c176_844 rfl ?_
  refine r_al hP c176_845 rfl ?_
  refine r_il hP c176_846 rfl ?_
  refine r_ic hP c176_847 ?_
  refine r_iadd hP c176_848 ?_
  refine r_ti (y := nI (i + 1)) (nI_add i 1) ?_
  refine r_iald (j := i + 1) (x := I 0 (i + 1)) hP c176_849 hK0 rfl (by omega) (hE1 0 (i + 1) (Or.inl (by decide))) ?_
  refine r_al hP c176_850 rfl ?_
  refine r_il hP c176_851 rfl ?_
  refine r_ic hP c176_852 ?_
  refine r_iadd hP c176_853 ?_
  refine r_ti (y := nI (i + 2)) (nI_add i 2) ?_
  refine r_iald (j := i + 2) (x := I 0 (i + 2)) hP c176_854 hK0 rfl (by omega) (hE1 0 (i + 2) (Or.inl (by decide))) ?_
  refine r_cVip (as := [.int (I 0 (i + 1)), .int (I 0 (i + 2))]) (r := [.int (f_goes S nP (I 0 (i + 1)) (I 0 (i + 2)))]) (a := 119) hP c176_855 rfl (zj119 hKb) rfl (fun x I2 L2 R2 => x = (f_goes S nP (I 0 (i + 1)) (I 0 (i + 2))) ∧ zMI I2 S nS nP nW len T na A kp n1 A1 n2 A2 ∧ zfM I1 I2 ∧ zfM L1 L2 ∧ R = R2) (fun Q2 hq => q_goes hP hKb hRI.2.1 hPI (zMI_E hMI hPI (fun a k q => hE1 a k (Or.inr q))) (fun I2 L2 g1 g2 g3 => hq _ I2 L2 _ ⟨rfl, g1, g2, g3, rfl⟩)) ?_
  rintro _ I2 L2 _ ⟨rfl, hM2, hf1, hf2, rfl⟩
  refine r_ieq hP c176_858 (fun h858 => ?_) (fun h858 => absurd h858 (not_not_intro rfl))
  have hPI2 : zPI S nS nP nW len T na A kp n1 A1 n2 A2 := hPI
  exact hx _ _ _ ⟨fun k hk => (hf1 1 k (by decide)).trans ((hE1 1 k (Or.inl (by decide))).trans (hmn k hk)), _, _, _, _, _, _, _, _, _, _, _, _, _, _, _, hRI, hPI2, zCI_M hC1 hRI.2.2.2.2.1 hPI2 hf1 hf2, hM2⟩
set_option maxRecDepth 4000 in
theorem l_ntg {K : ZKh} {P : Nat → Nat → List Value → List Value → ZMi → ZMl → ZMr → ZRt → Prop} {I : ZMi} {L : ZMl} {R : ZMr} {Q : ZRt} (hP : ZCl K P) (hK : zKa K) (hKb : zKb K) {N i : Nat} (hK0 : K 0 = (30, N)) (hN : N ≤ 2560) (hi : i + 5 ≤ N) (hmn : ∀ k, k < 5 → I 1 k = zmn k) {w v : Nat} (hRI : zRI R w v) {S : ZS} {nS nP nW len na kp n1 n2 : Nat} {T : Nat → Nat} {A A1 A2 : ZA} (hPI : zPI S nS nP nW len T na A kp n1 A1 n2 A2) (hCI : zCI I L w S nS nP nW len T na A kp n1 A1 n2 A2) (hMI : zMI I S nS nP nW len T na A kp n1 A1 n2 A2) (hx : ∀ I L R, zINV I L R → P 176 958 [.ref 0, .ref 2, .ref 119, .int (nI i)] [] I L R Q)  : P 176 863 [.ref 0, .ref 2, .ref 119, .int (nI i)] [] I L R Q := by
  refine r_al hP c176_863 rfl ?_
  refine r_al hP c176_864 rfl ?_
  refine r_il hP c176_865 rfl ?_
  refine r_ic hP c176_866 ?_
  refine r_iadd hP c176_867 ?_
  refine r_ti (y := nI (i + 1)) (nI_add i 1) ?_
  refine r_iald (j := i + 1) (x := I 0 (i + 1)) hP c176_868 hK0 rfl (by omega) rfl ?_
  refine r_cVip (as := [.int (I 0 (i + 1))]) (r := []) (a := 2) hP c176_869 rfl (zj2 hK) rfl (fun x I2 L2 R2 => x = (f_ntg S nP (I 0 (i + 1))) ∧ zCI I2 L2 w S nS nP nW len T na A kp n1 A1 n2 A2 ∧ zfE I I2 ∧ R = R2) (fun Q2 hq => p_ntg hP hK hRI hPI hCI (fun I2 L2 g1 g2 => hq _ I2 L2 _ ⟨rfl, g1, g2, rfl⟩)) ?_
  rintro _ I1 L1 _ ⟨rfl, hC1, hE1, rfl⟩
  refine r_al hP c176_872 rfl ?_
  refine r_al hP c176_873 rfl ?_
  refine r_il hP c176_874 rfl ?_
  refine r_ic hP c176_875 ?_
  refine r_iadd hP c176_876 ?_
  refine r_ti (y := nI (i + 1)) (nI_add i 1) ?_
  refine r_iald (j := i + 1) (x := I 0 (i + 1)) hP c176_877 hK0 rfl (by omega) (hE1 0 (i + 1) (Or.inl (by decide))) ?_
  refine r_cVip (as := [.int (I 0 (i + 1))]) (r := [.int (f_ntg S nP (I 0 (i + 1)))]) (a := 119) hP c176_878 rfl (zj119 hKb) rfl (fun x I2 L2 R2 => x = (f_ntg S nP (I 0 (i + 1))) ∧ zMI I2 S nS nP nW len T na A kp n1 A1 n2 A2 ∧ zfM I1 I2 ∧ zfM L1 L2 ∧ R = R2) (fun Q2 hq => q_ntg hP hKb hRI.2.1 hPI (zMI_E hMI hPI (fun a k q => hE1 a k (Or.inr q))) (fun I2 L2 g1 g2 g3 => hq _ I2 L2 _ ⟨rfl, g1, g2, g3, rfl⟩)) ?_
  rintro _ I2 L2 _ ⟨rfl, hM2, hf1, hf2, rfl⟩
  refine r_ieq hP c176_881 (fun h881 => ?_) (fun h881 => absurd h881 (not_not_intro rfl))
  have hPI2 : zPI S nS nP nW len T na A kp n1 A1 n2 A2 := hPI
  exact hx _ _ _ ⟨fun k hk => (hf1 1 k (by decide)).trans ((hE1 1 k (Or.inl (by decide))).trans (hmn k hk)), _, _, _, _, _, _, _, _, _, _, _, _, _, _, _, hRI, hPI2, zCI_M hC1 hRI.2.2.2.2.1 hPI2 hf1 hf2, hM2⟩
set_option maxRecDepth 4000 in
theorem l_set {K : ZKh} {P : Nat → Nat → List Value → List Value → ZMi → ZMl → ZMr → ZRt → Prop} {I : ZMi} {L : ZMl} {R : ZMr} {Q : ZRt} (hP : ZCl K P) (hK : zKa K) (hKb : zKb K) {N i : Nat} (hK0 : K 0 = (30, N)) (hN : N ≤ 2560) (hi : i + 5 ≤ N) (hmn : ∀ k, k < 5 → I 1 k = zmn k) {w v : Nat} (hRI : zRI R w v) {S : ZS} {nS nP nW len na kp n1 n2 : Nat} {T : Nat → Nat} {A A1 A2 : ZA} (hPI : zPI S nS nP nW len T na A kp n1 A1 n2 A2) (hCI : zCI I L w S nS nP nW len T na A kp n1 A1 n2 A2) (hMI : zMI I S nS nP nW len T na A kp n1 A1 n2 A2) (hx : ∀ I L R, zINV I L R → P 176 958 [.ref 0, .ref 2, .ref 119, .int (nI i)] [] I L R Q)  : P 176 886 [.ref 0, .ref 2, .ref 119, .int (nI i)] [] I L R Q := by
  refine r_al hP c176_886 rfl ?_
  refine r_al hP c176_887 rfl ?_
  refine r_il hP c176_888 rfl ?_
  refine r_ic hP c176_889 ?_
  refine r_iadd hP c176_890 ?_
  refine r_ti (y := nI (i + 1)) (nI_add i 1) ?_
  refine r_iald (j := i + 1) (x := I 0 (i + 1)) hP c176_891 hK0 rfl (by omega) rfl ?_
  refine r_cVip (as := [.int (I 0 (i + 1))]) (r := []) (a := 2) hP c176_892 rfl (zj2 hK) rfl (fun x I2 L2 R2 => x = (f_set S nP (I 0 (i + 1))) ∧ zCI I2 L2 w S nS nP nW len T na A kp n1 A1 n2 A2 ∧ zfE I I2 ∧ R = R2) (fun Q2 hq => p_set hP hK hRI hPI hCI (fun I2 L2 g1 g2 => hq _ I2 L2 _ ⟨rfl, g1, g2, rfl⟩)) ?_
  rintro _ I1 L1 _ ⟨rfl, hC1, hE1, rfl⟩
  refine r_al hP c176_895 rfl ?_
  refine r_al hP c176_896 rfl ?_
  refine r_il hP c176_897 rfl ?_
  refine r_ic hP c176_898 ?_
  refine r_iadd hP c176_899 ?_
  refine r_ti (y := nI (i + 1)) (nI_add i 1) ?_
  refine r_iald (j := i + 1) (x := I 0 (i + 1)) hP c176_900 hK0 rfl (by omega) (hE1 0 (i + 1) (Or.inl (by decide))) ?_
  refine r_cVip (as := [.int (I 0 (i + 1))]) (r := [.int (f_set S nP (I 0 (i + 1)))]) (a := 119) hP c176_901 rfl (zj119 hKb) rfl (fun x I2 L2 R2 => x = (f_set S nP (I 0 (i + 1))) ∧ zMI I2 S nS nP nW len T na A kp n1 A1 n2 A2 ∧ zfM I1 I2 ∧ zfM L1 L2 ∧ R = R2) (fun Q2 hq => q_set hP hKb hRI.2.1 hPI (zMI_E hMI hPI (fun a k q => hE1 a k (Or.inr q))) (fun I2 L2 g1 g2 g3 => hq _ I2 L2 _ ⟨rfl, g1, g2, g3, rfl⟩)) ?_
  rintro _ I2 L2 _ ⟨rfl, hM2, hf1, hf2, rfl⟩
  refine r_ieq hP c176_904 (fun h904 => ?_) (fun h904 => absurd h904 (not_not_intro rfl))
  have hPI2 : zPI S nS nP nW len T na A kp n1 A1 n2 A2 := hPI
  exact hx _ _ _ ⟨fun k hk => (hf1 1 k (by decide)).trans ((hE1 1 k (Or.inl (by decide))).trans (hmn k hk)), _, _, _, _, _, _, _, _, _, _, _, _, _, _, _, hRI, hPI2, zCI_M hC1 hRI.2.2.2.2.1 hPI2 hf1 hf2, hM2⟩
set_option maxRecDepth 4000 in
theorem l_count {K : ZKh} {P : Nat → Nat → List Value → List Value → ZMi → ZMl → ZMr → ZRt → Prop} {I : ZMi} {L : ZMl} {R : ZMr} {Q : ZRt} (hP : ZCl K P) (hK : zKa K) (hKb : zKb K) {N i : Nat} (hK0 : K 0 = (30, N)) (hN : N ≤ 2560) (hi : i + 5 ≤ N) (hmn : ∀ k, k < 5 → I 1 k = zmn k) {w v : Nat} (hRI : zRI R w v) {S : ZS} {nS nP nW len na kp n1 n2 : Nat} {T : Nat → Nat} {A A1 A2 : ZA} (hPI : zPI S nS nP nW len T na A kp n1 A1 n2 A2) (hCI : zCI I L w S nS nP nW len T na A kp n1 A1 n2 A2) (hMI : zMI I S nS nP nW len T na A kp n1 A1 n2 A2) (hx : ∀ I L R, zINV I L R → P 176 958 [.ref 0, .ref 2, .ref 119, .int (nI i)] [] I L R Q)  : P 176 935 [.ref 0, .ref 2, .ref 119, .int (nI i)] [] I L R Q := by
  refine r_al hP c176_935 rfl ?_
  refine r_al hP c176_936 rfl ?_
  refine r_il hP c176_937 rfl ?_
  refine r_ic hP c176_938 ?_
  refine r_iadd hP c176_939 ?_
  refine r_ti (y := nI (i + 1)) (nI_add i 1) ?_
  refine r_iald (j := i + 1) (x := I 0 (i + 1)) hP c176_940 hK0 rfl (by omega) rfl ?_
  refine r_cVip (as := [.int (I 0 (i + 1))]) (r := []) (a := 2) hP c176_941 rfl (zj2 hK) rfl (fun x I2 L2 R2 => x = (f_count nS nP len na kp (I 0 (i + 1))) ∧ zCI I2 L2 w S nS nP nW len T na A kp n1 A1 n2 A2 ∧ zfE I I2 ∧ R = R2) (fun Q2 hq => p_count hP hK hRI hPI hCI (fun I2 L2 g1 g2 => hq _ I2 L2 _ ⟨rfl, g1, g2, rfl⟩)) ?_
  rintro _ I1 L1 _ ⟨rfl, hC1, hE1, rfl⟩
  refine r_al hP c176_944 rfl ?_
  refine r_al hP c176_945 rfl ?_
  refine r_il hP c176_946 rfl ?_
  refine r_ic hP c176_947 ?_
  refine r_iadd hP c176_948 ?_
  refine r_ti (y := nI (i + 1)) (nI_add i 1) ?_
  refine r_iald (j := i + 1) (x := I 0 (i + 1)) hP c176_949 hK0 rfl (by omega) (hE1 0 (i + 1) (Or.inl (by decide))) ?_
  refine r_cVip (as := [.int (I 0 (i + 1))]) (r := [.int (f_count nS nP len na kp (I 0 (i + 1)))]) (a := 119) hP c176_950 rfl (zj119 hKb) rfl (fun x I2 L2 R2 => x = (f_count nS nP len na kp (I 0 (i + 1))) ∧ zMI I2 S nS nP nW len T na A kp n1 A1 n2 A2 ∧ zfM I1 I2 ∧ zfM L1 L2 ∧ R = R2) (fun Q2 hq => q_count hP hKb hRI.2.1 hPI (zMI_E hMI hPI (fun a k q => hE1 a k (Or.inr q))) (fun I2 L2 g1 g2 g3 => hq _ I2 L2 _ ⟨rfl, g1, g2, g3, rfl⟩)) ?_
  rintro _ I2 L2 _ ⟨rfl, hM2, hf1, hf2, rfl⟩
  refine r_ieq hP c176_953 (fun h953 => ?_) (fun h953 => absurd h953 (not_not_intro rfl))
  have hPI2 : zPI S nS nP nW len T na A kp n1 A1 n2 A2 := hPI
  exact hx _ _ _ ⟨fun k hk => (hf1 1 k (by decide)).trans ((hE1 1 k (Or.inl (by decide))).trans (hmn k hk)), _, _, _, _, _, _, _, _, _, _, _, _, _, _, _, hRI, hPI2, zCI_M hC1 hRI.2.2.2.2.1 hPI2 hf1 hf2, hM2⟩
set_option maxRecDepth 4000 in
theorem l_write {K : ZKh} {P : Nat → Nat → List Value → List Value → ZMi → ZMl → ZMr → ZRt → Prop} {I : ZMi} {L : ZMl} {R : ZMr} {Q : ZRt} (hP : ZCl K P) (hK : zKa K) (hKb : zKb K) {N i : Nat} (hK0 : K 0 = (30, N)) (hN : N ≤ 2560) (hi : i + 5 ≤ N) (hmn : ∀ k, k < 5 → I 1 k = zmn k) {w v : Nat} (hRI : zRI R w v) {S : ZS} {nS nP nW len na kp n1 n2 : Nat} {T : Nat → Nat} {A A1 A2 : ZA} (hPI : zPI S nS nP nW len T na A kp n1 A1 n2 A2) (hCI : zCI I L w S nS nP nW len T na A kp n1 A1 n2 A2) (hMI : zMI I S nS nP nW len T na A kp n1 A1 n2 A2) (hx : ∀ I L R, zINV I L R → P 176 958 [.ref 0, .ref 2, .ref 119, .int (nI i)] [] I L R Q)  : P 176 160 [.ref 0, .ref 2, .ref 119, .int (nI i)] [] I L R Q := by
  refine r_al hP c176_160 rfl ?_
  refine r_al hP c176_161 rfl ?_
  refine r_il hP c176_162 rfl ?_
  refine r_ic hP c176_163 ?_
  refine r_iadd hP c176_164 ?_
  refine r_ti (y := nI (i + 1)) (nI_add i 1) ?_
  refine r_iald (j := i + 1) (x := I 0 (i + 1)) hP c176_165 hK0 rfl (by omega) rfl ?_
  refine r_al hP c176_166 rfl ?_
  refine r_il hP c176_167 rfl ?_
  refine r_ic hP c176_168 ?_
  refine r_iadd hP c176_169 ?_
  refine r_ti (y := nI (i + 2)) (nI_add i 2) ?_
  refine r_iald (j := i + 2) (x := I 0 (i + 2)) hP c176_170 hK0 rfl (by omega) rfl ?_
  refine r_i2l hP c176_171 ?_
  refine r_ic hP c176_172 ?_
  refine r_lshl hP c176_174 ?_
  refine r_al hP c176_175 rfl ?_
  refine r_il hP c176_176 rfl ?_
  refine r_ic hP c176_177 ?_
  refine r_iadd hP c176_178 ?_
  refine r_ti (y := nI (i + 3)) (nI_add i 3) ?_
  refine r_iald (j := i + 3) (x := I 0 (i + 3)) hP c176_179 hK0 rfl (by omega) rfl ?_
  refine r_i2l hP c176_180 ?_
  refine r_lc hP c176_181 ?_
  refine r_land hP c176_184 ?_
  refine r_lor hP c176_185 ?_
  refine r_cVip (as := [.int (I 0 (i + 1)), .long ((((I 0 (i + 2)).toInt64) <<< ((32 : Int32).toInt64 &&& 63)) ||| (((I 0 (i + 3)).toInt64) &&& 4294967295))]) (r := []) (a := 2) hP c176_186 rfl (zj2 hK) rfl (fun x I2 L2 R2 => x = f_write len (I 0 (i + 1)) ∧ zCI I2 L2 w S nS nP nW (zwn len (I 0 (i + 1))) (zwT T len (I 0 (i + 1)) ((((I 0 (i + 2)).toInt64) <<< ((32 : Int32).toInt64 &&& 63)) ||| (((I 0 (i + 3)).toInt64) &&& 4294967295))) na A kp n1 A1 n2 A2 ∧ zfE I I2 ∧ R = R2) (fun Q2 hq => p_write hP hK hRI hPI hCI (fun I2 L2 g1 g2 => hq _ I2 L2 _ ⟨rfl, g1, g2, rfl⟩)) ?_
  rintro _ I1 L1 _ ⟨rfl, hC1, hE1, rfl⟩
  refine r_al hP c176_189 rfl ?_
  refine r_al hP c176_190 rfl ?_
  refine r_il hP c176_191 rfl ?_
  refine r_ic hP c176_192 ?_
  refine r_iadd hP c176_193 ?_
  refine r_ti (y := nI (i + 1)) (nI_add i 1) ?_
  refine r_iald (j := i + 1) (x := I 0 (i + 1)) hP c176_194 hK0 rfl (by omega) (hE1 0 (i + 1) (Or.inl (by decide))) ?_
  refine r_al hP c176_195 rfl ?_
  refine r_il hP c176_196 rfl ?_
  refine r_ic hP c176_197 ?_
  refine r_iadd hP c176_198 ?_
  refine r_ti (y := nI (i + 2)) (nI_add i 2) ?_
  refine r_iald (j := i + 2) (x := I 0 (i + 2)) hP c176_199 hK0 rfl (by omega) (hE1 0 (i + 2) (Or.inl (by decide))) ?_
  refine r_i2l hP c176_200 ?_
  refine r_ic hP c176_201 ?_
  refine r_lshl hP c176_203 ?_
  refine r_al hP c176_204 rfl ?_
  refine r_il hP c176_205 rfl ?_
  refine r_ic hP c176_206 ?_
  refine r_iadd hP c176_207 ?_
  refine r_ti (y := nI (i + 3)) (nI_add i 3) ?_
  refine r_iald (j := i + 3) (x := I 0 (i + 3)) hP c176_208 hK0 rfl (by omega) (hE1 0 (i + 3) (Or.inl (by decide))) ?_
  refine r_i2l hP c176_209 ?_
  refine r_lc hP c176_210 ?_
  refine r_land hP c176_213 ?_
  refine r_lor hP c176_214 ?_
  refine r_cVip (as := [.int (I 0 (i + 1)), .long ((((I 0 (i + 2)).toInt64) <<< ((32 : Int32).toInt64 &&& 63)) ||| (((I 0 (i + 3)).toInt64) &&& 4294967295))]) (r := [.int (f_write len (I 0 (i + 1)))]) (a := 119) hP c176_215 rfl (zj119 hKb) rfl (fun x I2 L2 R2 => x = f_write len (I 0 (i + 1)) ∧ zMI I2 S nS nP nW (zwn len (I 0 (i + 1))) (zwT T len (I 0 (i + 1)) ((((I 0 (i + 2)).toInt64) <<< ((32 : Int32).toInt64 &&& 63)) ||| (((I 0 (i + 3)).toInt64) &&& 4294967295))) na A kp n1 A1 n2 A2 ∧ zfM I1 I2 ∧ zfM L1 L2 ∧ R = R2) (fun Q2 hq => q_write hP hKb hRI.2.1 hPI (zMI_E hMI hPI (fun a k q => hE1 a k (Or.inr q))) (fun I2 L2 g1 g2 g3 => hq _ I2 L2 _ ⟨rfl, g1, g2, g3, rfl⟩)) ?_
  rintro _ I2 L2 _ ⟨rfl, hM2, hf1, hf2, rfl⟩
  refine r_ieq hP c176_218 (fun h218 => ?_) (fun h218 => absurd h218 (not_not_intro rfl))
  have hPI2 : zPI S nS nP nW (zwn len (I 0 (i + 1))) (zwT T len (I 0 (i + 1)) ((((I 0 (i + 2)).toInt64) <<< ((32 : Int32).toInt64 &&& 63)) ||| (((I 0 (i + 3)).toInt64) &&& 4294967295))) na A kp n1 A1 n2 A2 := ⟨hPI.1, hPI.2.1, hPI.2.2.1, hPI.2.2.2.1, zwn_4 hPI.2.2.2.2.1 _, zwT_256 hPI.2.2.2.2.2.1 _ _ _, hPI.2.2.2.2.2.2.1, hPI.2.2.2.2.2.2.2.1, hPI.2.2.2.2.2.2.2.2⟩
  exact hx _ _ _ ⟨fun k hk => (hf1 1 k (by decide)).trans ((hE1 1 k (Or.inl (by decide))).trans (hmn k hk)), _, _, _, _, _, _, _, _, _, _, _, _, _, _, _, hRI, hPI2, zCI_M hC1 hRI.2.2.2.2.1 hPI2 hf1 hf2, hM2⟩
set_option maxRecDepth 4000 in
theorem l_wipe {K : ZKh} {P : Nat → Nat → List Value → List Value → ZMi → ZMl → ZMr → ZRt → Prop} {I : ZMi} {L : ZMl} {R : ZMr} {Q : ZRt} (hP : ZCl K P) (hK : zKa K) (hKb : zKb K) {N i : Nat} (hK0 : K 0 = (30, N)) (hN : N ≤ 2560) (hi : i + 5 ≤ N) (hmn : ∀ k, k < 5 → I 1 k = zmn k) {w v : Nat} (hRI : zRI R w v) {S : ZS} {nS nP nW len na kp n1 n2 : Nat} {T : Nat → Nat} {A A1 A2 : ZA} (hPI : zPI S nS nP nW len T na A kp n1 A1 n2 A2) (hCI : zCI I L w S nS nP nW len T na A kp n1 A1 n2 A2) (hMI : zMI I S nS nP nW len T na A kp n1 A1 n2 A2) (hx : ∀ I L R, zINV I L R → P 176 958 [.ref 0, .ref 2, .ref 119, .int (nI i)] [] I L R Q)  : P 176 223 [.ref 0, .ref 2, .ref 119, .int (nI i)] [] I L R Q := by
  refine r_al hP c176_223 rfl ?_
  refine r_cVip (as := []) (r := []) (a := 2) hP c176_224 rfl (zj2 hK) rfl (fun x I2 L2 R2 => x = nI len ∧ zCI I2 L2 w S nS nP nW 0 T na A kp n1 A1 n2 A2 ∧ zfE I I2 ∧ R = R2) (fun Q2 hq => p_wipe hP hK hRI hPI hCI (fun I2 L2 g1 g2 => hq _ I2 L2 _ ⟨rfl, g1, g2, rfl⟩)) ?_
  rintro _ I1 L1 _ ⟨rfl, hC1, hE1, rfl⟩
  refine r_al hP c176_227 rfl ?_
  refine r_cVip (as := []) (r := [.int (nI len)]) (a := 119) hP c176_228 rfl (zj119 hKb) rfl (fun x I2 L2 R2 => x = nI len ∧ zMI I2 S nS nP nW 0 T na A kp n1 A1 n2 A2 ∧ zfM I1 I2 ∧ zfM L1 L2 ∧ R = R2) (fun Q2 hq => q_wipe hP hKb hRI.2.1 hPI (zMI_E hMI hPI (fun a k q => hE1 a k (Or.inr q))) (fun I2 L2 g1 g2 g3 => hq _ I2 L2 _ ⟨rfl, g1, g2, g3, rfl⟩)) ?_
  rintro _ I2 L2 _ ⟨rfl, hM2, hf1, hf2, rfl⟩
  refine r_ieq hP c176_231 (fun h231 => ?_) (fun h231 => absurd h231 (not_not_intro rfl))
  have hPI2 : zPI S nS nP nW 0 T na A kp n1 A1 n2 A2 := ⟨hPI.1, hPI.2.1, hPI.2.2.1, hPI.2.2.2.1, Nat.zero_le _, hPI.2.2.2.2.2.1, hPI.2.2.2.2.2.2.1, hPI.2.2.2.2.2.2.2.1, hPI.2.2.2.2.2.2.2.2⟩
  exact hx _ _ _ ⟨fun k hk => (hf1 1 k (by decide)).trans ((hE1 1 k (Or.inl (by decide))).trans (hmn k hk)), _, _, _, _, _, _, _, _, _, _, _, _, _, _, _, hRI, hPI2, zCI_M hC1 hRI.2.2.2.2.1 hPI2 hf1 hf2, hM2⟩
set_option maxRecDepth 4000 in
theorem l_fault {K : ZKh} {P : Nat → Nat → List Value → List Value → ZMi → ZMl → ZMr → ZRt → Prop} {I : ZMi} {L : ZMl} {R : ZMr} {Q : ZRt} (hP : ZCl K P) (hK : zKa K) (hKb : zKb K) {N i : Nat} (hK0 : K 0 = (30, N)) (hN : N ≤ 2560) (hi : i + 5 ≤ N) (hmn : ∀ k, k < 5 → I 1 k = zmn k) {w v : Nat} (hRI : zRI R w v) {S : ZS} {nS nP nW len na kp n1 n2 : Nat} {T : Nat → Nat} {A A1 A2 : ZA} (hPI : zPI S nS nP nW len T na A kp n1 A1 n2 A2) (hCI : zCI I L w S nS nP nW len T na A kp n1 A1 n2 A2) (hMI : zMI I S nS nP nW len T na A kp n1 A1 n2 A2) (hx : ∀ I L R, zINV I L R → P 176 958 [.ref 0, .ref 2, .ref 119, .int (nI i)] [] I L R Q)  : P 176 236 [.ref 0, .ref 2, .ref 119, .int (nI i)] [] I L R Q := by
  refine r_al hP c176_236 rfl ?_
  refine r_cVip (as := []) (r := []) (a := 2) hP c176_237 rfl (zj2 hK) rfl (fun x I2 L2 R2 => x = (zU_ T len).1 ∧ zCI I2 L2 w S nS nP nW len T na A kp n1 A1 n2 A2 ∧ zfE I I2 ∧ R = R2) (fun Q2 hq => p_fault hP hK hRI hPI hCI (fun I2 L2 g1 g2 => hq _ I2 L2 _ ⟨rfl, g1, g2, rfl⟩)) ?_
  rintro _ I1 L1 _ ⟨rfl, hC1, hE1, rfl⟩
  refine r_al hP c176_240 rfl ?_
  refine r_cVip (as := []) (r := [.int ((zU_ T len).1)]) (a := 119) hP c176_241 rfl (zj119 hKb) rfl (fun x I2 L2 R2 => x = (zU_ T len).1 ∧ zMI I2 S nS nP nW len T na A kp n1 A1 n2 A2 ∧ zfM I1 I2 ∧ zfM L1 L2 ∧ R = R2) (fun Q2 hq => q_fault hP hKb hRI.2.1 hPI (zMI_E hMI hPI (fun a k q => hE1 a k (Or.inr q))) (fun I2 L2 g1 g2 g3 => hq _ I2 L2 _ ⟨rfl, g1, g2, g3, rfl⟩)) ?_
  rintro _ I2 L2 _ ⟨rfl, hM2, hf1, hf2, rfl⟩
  refine r_ieq hP c176_244 (fun h244 => ?_) (fun h244 => absurd h244 (not_not_intro rfl))
  have hPI2 : zPI S nS nP nW len T na A kp n1 A1 n2 A2 := hPI
  exact hx _ _ _ ⟨fun k hk => (hf1 1 k (by decide)).trans ((hE1 1 k (Or.inl (by decide))).trans (hmn k hk)), _, _, _, _, _, _, _, _, _, _, _, _, _, _, _, hRI, hPI2, zCI_M hC1 hRI.2.2.2.2.1 hPI2 hf1 hf2, hM2⟩
set_option maxRecDepth 4000 in
theorem l_lay0 {K : ZKh} {P : Nat → Nat → List Value → List Value → ZMi → ZMl → ZMr → ZRt → Prop} {I : ZMi} {L : ZMl} {R : ZMr} {Q : ZRt} (hP : ZCl K P) (hK : zKa K) (hKb : zKb K) {N i : Nat} (hK0 : K 0 = (30, N)) (hN : N ≤ 2560) (hi : i + 5 ≤ N) (hmn : ∀ k, k < 5 → I 1 k = zmn k) {w v : Nat} (hRI : zRI R w v) {S : ZS} {nS nP nW len na kp n1 n2 : Nat} {T : Nat → Nat} {A A1 A2 : ZA} (hPI : zPI S nS nP nW len T na A kp n1 A1 n2 A2) (hCI : zCI I L w S nS nP nW len T na A kp n1 A1 n2 A2) (hMI : zMI I S nS nP nW len T na A kp n1 A1 n2 A2) (hz : ¬ zlk (zU_ T len)) (hx : ∀ I L R, zINV I L R → P 176 958 [.ref 0, .ref 2, .ref 119, .int (nI i)] [] I L R Q)  : P 176 249 [.ref 0, .ref 2, .ref 119, .int (nI i)] [] I L R Q := by
  refine r_al hP c176_249 rfl ?_
  refine r_cVip (as := []) (r := []) (a := 2) hP c176_250 rfl (zj2 hK) rfl (fun x I2 L2 R2 => x = (-2) ∧ zCI I2 L2 w S nS nP nW len T na A kp n1 A1 n2 A2 ∧ zfE I I2 ∧ R = R2) (fun Q2 hq => p_lay0 hP hK hRI hPI hCI hz (fun I2 L2 g1 g2 => hq _ I2 L2 _ ⟨rfl, g1, g2, rfl⟩)) ?_
  rintro _ I1 L1 _ ⟨rfl, hC1, hE1, rfl⟩
  refine r_al hP c176_253 rfl ?_
  refine r_cVip (as := []) (r := [.int (-2)]) (a := 119) hP c176_254 rfl (zj119 hKb) rfl (fun x I2 L2 R2 => x = (-2) ∧ zMI I2 S nS nP nW len T na A kp n1 A1 n2 A2 ∧ zfM I1 I2 ∧ zfM L1 L2 ∧ R = R2) (fun Q2 hq => q_lay0 hP hKb hRI.2.1 hPI (zMI_E hMI hPI (fun a k q => hE1 a k (Or.inr q))) hz (fun I2 L2 g1 g2 g3 => hq _ I2 L2 _ ⟨rfl, g1, g2, g3, rfl⟩)) ?_
  rintro _ I2 L2 _ ⟨rfl, hM2, hf1, hf2, rfl⟩
  refine r_ieq hP c176_257 (fun h257 => ?_) (fun h257 => absurd h257 (not_not_intro rfl))
  have hPI2 : zPI S nS nP nW len T na A kp n1 A1 n2 A2 := hPI
  exact hx _ _ _ ⟨fun k hk => (hf1 1 k (by decide)).trans ((hE1 1 k (Or.inl (by decide))).trans (hmn k hk)), _, _, _, _, _, _, _, _, _, _, _, _, _, _, _, hRI, hPI2, zCI_M hC1 hRI.2.2.2.2.1 hPI2 hf1 hf2, hM2⟩
theorem zPI_lay {len : Nat} {T : Nat → Nat} {A A1 A2 : ZA} {n1 n2 : Nat} (hz : zlk (zU_ T len)) (hl : len ≤ 400) (h256 : ∀ i, T i < 256) : zPI (zU_ T len).2.1 (zU_ T len).2.2.1 (zU_ T len).2.2.2.1 (zU_ T len).2.2.2.2.1 len T 0 A 0 n1 A1 n2 A2 := by
  have hub := zrd_ub (t := zto T len) (len := len) 400 0 zu0 zub0
  obtain ⟨u1, u2, u3, -, -⟩ := hub
  obtain ⟨-, z1, z2⟩ := hz
  exact ⟨zrd_sr, ⟨by omega, u1⟩, ⟨by omega, u2⟩, u3, hl, h256, ⟨Nat.zero_le _, fun i hi => absurd hi (Nat.not_lt_zero i)⟩, Nat.zero_le _, fun q => absurd q (by decide), fun q => absurd q (by decide)⟩
set_option maxRecDepth 4000 in
theorem l_lay1 {K : ZKh} {P : Nat → Nat → List Value → List Value → ZMi → ZMl → ZMr → ZRt → Prop} {I : ZMi} {L : ZMl} {R : ZMr} {Q : ZRt} (hP : ZCl K P) (hK : zKa K) (hKb : zKb K) {N i : Nat} (hK0 : K 0 = (30, N)) (hN : N ≤ 2560) (hi : i + 5 ≤ N) (hmn : ∀ k, k < 5 → I 1 k = zmn k) {w v : Nat} (hRI : zRI R w v) {S : ZS} {nS nP nW len na kp n1 n2 : Nat} {T : Nat → Nat} {A A1 A2 : ZA} (hPI : zPI S nS nP nW len T na A kp n1 A1 n2 A2) (hCI : zCI I L w S nS nP nW len T na A kp n1 A1 n2 A2) (hMI : zMI I S nS nP nW len T na A kp n1 A1 n2 A2) (hz : zlk (zU_ T len)) (hx : ∀ I L R, zINV I L R → P 176 958 [.ref 0, .ref 2, .ref 119, .int (nI i)] [] I L R Q)  : P 176 249 [.ref 0, .ref 2, .ref 119, .int (nI i)] [] I L R Q := by
  refine r_al hP c176_249 rfl ?_
  refine r_cVip (as := []) (r := []) (a := 2) hP c176_250 rfl (zj2 hK) rfl (fun x I2 L2 R2 => x = nI (zU_ T len).2.2.2.1 ∧ zCI I2 L2 v (zU_ T len).2.1 (zU_ T len).2.2.1 (zU_ T len).2.2.2.1 (zU_ T len).2.2.2.2.1 len T 0 A 0 n1 A1 n2 A2 ∧ (∀ a k, (a = 1 ∨ 119 ≤ a) → I2 a k = I a k) ∧ (zup (zup R 2 9 (v + 1)) 2 10 (w + 1)) = R2) (fun Q2 hq => p_lay1 hP hK hRI hPI hCI hz (fun I2 L2 g1 g2 => hq _ I2 L2 _ ⟨rfl, g1, g2, rfl⟩)) ?_
  rintro _ I1 L1 _ ⟨rfl, hC1, hE1, rfl⟩
  refine r_al hP c176_253 rfl ?_
  refine r_cVip (as := []) (r := [.int (nI (zU_ T len).2.2.2.1)]) (a := 119) hP c176_254 rfl (zj119 hKb) rfl (fun x I2 L2 R2 => x = nI (zU_ T len).2.2.2.1 ∧ zMI I2 (zU_ T len).2.1 (zU_ T len).2.2.1 (zU_ T len).2.2.2.1 (zU_ T len).2.2.2.2.1 len T 0 A 0 n1 A1 n2 A2 ∧ zfM I1 I2 ∧ zfM L1 L2 ∧ (zup (zup R 2 9 (v + 1)) 2 10 (w + 1)) = R2) (fun Q2 hq => q_lay1 hP hKb (zRI_lay hRI).2.1 hPI (zMI_E hMI hPI (fun a k q => hE1 a k (Or.inr q))) hz (fun I2 L2 g1 g2 g3 => hq _ I2 L2 _ ⟨rfl, g1, g2, g3, rfl⟩)) ?_
  rintro _ I2 L2 _ ⟨rfl, hM2, hf1, hf2, rfl⟩
  refine r_ieq hP c176_257 (fun h257 => ?_) (fun h257 => absurd h257 (not_not_intro rfl))
  have hPI2 : zPI (zU_ T len).2.1 (zU_ T len).2.2.1 (zU_ T len).2.2.2.1 (zU_ T len).2.2.2.2.1 len T 0 A 0 n1 A1 n2 A2 := zPI_lay hz hPI.2.2.2.2.1 hPI.2.2.2.2.2.1
  exact hx _ _ _ ⟨fun k hk => (hf1 1 k (by decide)).trans ((hE1 1 k (Or.inl rfl)).trans (hmn k hk)), _, _, _, _, _, _, _, _, _, _, _, _, _, _, _, zRI_lay hRI, hPI2, zCI_M hC1 hRI.2.2.2.2.2.1 hPI2 hf1 hf2, hM2⟩
set_option maxRecDepth 4000 in
theorem l_answer {K : ZKh} {P : Nat → Nat → List Value → List Value → ZMi → ZMl → ZMr → ZRt → Prop} {I : ZMi} {L : ZMl} {R : ZMr} {Q : ZRt} (hP : ZCl K P) (hK : zKa K) (hKb : zKb K) {N i : Nat} (hK0 : K 0 = (30, N)) (hN : N ≤ 2560) (hi : i + 5 ≤ N) (hmn : ∀ k, k < 5 → I 1 k = zmn k) {w v : Nat} (hRI : zRI R w v) {S : ZS} {nS nP nW len na kp n1 n2 : Nat} {T : Nat → Nat} {A A1 A2 : ZA} (hPI : zPI S nS nP nW len T na A kp n1 A1 n2 A2) (hCI : zCI I L w S nS nP nW len T na A kp n1 A1 n2 A2) (hMI : zMI I S nS nP nW len T na A kp n1 A1 n2 A2) (hx : ∀ I L R, zINV I L R → P 176 958 [.ref 0, .ref 2, .ref 119, .int (nI i)] [] I L R Q)  : P 176 566 [.ref 0, .ref 2, .ref 119, .int (nI i)] [] I L R Q := by
  refine r_al hP c176_566 rfl ?_
  refine r_al hP c176_567 rfl ?_
  refine r_il hP c176_568 rfl ?_
  refine r_ic hP c176_569 ?_
  refine r_iadd hP c176_570 ?_
  refine r_ti (y := nI (i + 1)) (nI_add i 1) ?_
  refine r_iald (j := i + 1) (x := I 0 (i + 1)) hP c176_571 hK0 rfl (by omega) rfl ?_
  refine r_al hP c176_572 rfl ?_
  refine r_il hP c176_573 rfl ?_
  refine r_ic hP c176_574 ?_
  refine r_iadd hP c176_575 ?_
  refine r_ti (y := nI (i + 2)) (nI_add i 2) ?_
  refine r_iald (j := i + 2) (x := I 0 (i + 2)) hP c176_576 hK0 rfl (by omega) rfl ?_
  refine r_al hP c176_577 rfl ?_
  refine r_il hP c176_578 rfl ?_
  refine r_ic hP c176_579 ?_
  refine r_iadd hP c176_580 ?_
  refine r_ti (y := nI (i + 3)) (nI_add i 3) ?_
  refine r_iald (j := i + 3) (x := I 0 (i + 3)) hP c176_581 hK0 rfl (by omega) rfl ?_
  refine r_al hP c176_582 rfl ?_
  refine r_il hP c176_583 rfl ?_
  refine r_ic hP c176_584 ?_
  refine r_iadd hP c176_585 ?_
  refine r_ti (y := nI (i + 4)) (nI_add i 4) ?_
  refine r_iald (j := i + 4) (x := I 0 (i + 4)) hP c176_586 hK0 rfl (by omega) rfl ?_
  refine r_cVip (as := [.int (I 0 (i + 1)), .int (I 0 (i + 2)), .int (I 0 (i + 3)), .int (I 0 (i + 4))]) (r := []) (a := 2) hP c176_587 rfl (zj2 hK) rfl (fun x I2 L2 R2 => x = f_answer nS nP na (I 0 (i + 1)) (I 0 (i + 2)) (I 0 (i + 3)) (I 0 (i + 4)) ∧ zCI I2 L2 w S nS nP nW len T (zan nS nP na (I 0 (i + 1)) (I 0 (i + 2)) (I 0 (i + 3)) (I 0 (i + 4))) (zaA nS nP na A (I 0 (i + 1)) (I 0 (i + 2)) (I 0 (i + 3)) (I 0 (i + 4))) kp n1 A1 n2 A2 ∧ zfE I I2 ∧ R = R2) (fun Q2 hq => p_answer hP hK hRI hPI hCI (fun I2 L2 g1 g2 => hq _ I2 L2 _ ⟨rfl, g1, g2, rfl⟩)) ?_
  rintro _ I1 L1 _ ⟨rfl, hC1, hE1, rfl⟩
  refine r_al hP c176_590 rfl ?_
  refine r_al hP c176_591 rfl ?_
  refine r_il hP c176_592 rfl ?_
  refine r_ic hP c176_593 ?_
  refine r_iadd hP c176_594 ?_
  refine r_ti (y := nI (i + 1)) (nI_add i 1) ?_
  refine r_iald (j := i + 1) (x := I 0 (i + 1)) hP c176_595 hK0 rfl (by omega) (hE1 0 (i + 1) (Or.inl (by decide))) ?_
  refine r_al hP c176_596 rfl ?_
  refine r_il hP c176_597 rfl ?_
  refine r_ic hP c176_598 ?_
  refine r_iadd hP c176_599 ?_
  refine r_ti (y := nI (i + 2)) (nI_add i 2) ?_
  refine r_iald (j := i + 2) (x := I 0 (i + 2)) hP c176_600 hK0 rfl (by omega) (hE1 0 (i + 2) (Or.inl (by decide))) ?_
  refine r_al hP c176_601 rfl ?_
  refine r_il hP c176_602 rfl ?_
  refine r_ic hP c176_603 ?_
  refine r_iadd hP c176_604 ?_
  refine r_ti (y := nI (i + 3)) (nI_add i 3) ?_
  refine r_iald (j := i + 3) (x := I 0 (i + 3)) hP c176_605 hK0 rfl (by omega) (hE1 0 (i + 3) (Or.inl (by decide))) ?_
  refine r_al hP c176_606 rfl ?_
  refine r_il hP c176_607 rfl ?_
  refine r_ic hP c176_608 ?_
  refine r_iadd hP c176_609 ?_
  refine r_ti (y := nI (i + 4)) (nI_add i 4) ?_
  refine r_iald (j := i + 4) (x := I 0 (i + 4)) hP c176_610 hK0 rfl (by omega) (hE1 0 (i + 4) (Or.inl (by decide))) ?_
  refine r_cVip (as := [.int (I 0 (i + 1)), .int (I 0 (i + 2)), .int (I 0 (i + 3)), .int (I 0 (i + 4))]) (r := [.int (f_answer nS nP na (I 0 (i + 1)) (I 0 (i + 2)) (I 0 (i + 3)) (I 0 (i + 4)))]) (a := 119) hP c176_611 rfl (zj119 hKb) rfl (fun x I2 L2 R2 => x = f_answer nS nP na (I 0 (i + 1)) (I 0 (i + 2)) (I 0 (i + 3)) (I 0 (i + 4)) ∧ zMI I2 S nS nP nW len T (zan nS nP na (I 0 (i + 1)) (I 0 (i + 2)) (I 0 (i + 3)) (I 0 (i + 4))) (zaA nS nP na A (I 0 (i + 1)) (I 0 (i + 2)) (I 0 (i + 3)) (I 0 (i + 4))) kp n1 A1 n2 A2 ∧ zfM I1 I2 ∧ zfM L1 L2 ∧ R = R2) (fun Q2 hq => q_answer hP hKb hRI.2.1 hPI (zMI_E hMI hPI (fun a k q => hE1 a k (Or.inr q))) (fun I2 L2 g1 g2 g3 => hq _ I2 L2 _ ⟨rfl, g1, g2, g3, rfl⟩)) ?_
  rintro _ I2 L2 _ ⟨rfl, hM2, hf1, hf2, rfl⟩
  refine r_ieq hP c176_614 (fun h614 => ?_) (fun h614 => absurd h614 (not_not_intro rfl))
  have hPI2 : zPI S nS nP nW len T (zan nS nP na (I 0 (i + 1)) (I 0 (i + 2)) (I 0 (i + 3)) (I 0 (i + 4))) (zaA nS nP na A (I 0 (i + 1)) (I 0 (i + 2)) (I 0 (i + 3)) (I 0 (i + 4))) kp n1 A1 n2 A2 := ⟨hPI.1, hPI.2.1, hPI.2.2.1, hPI.2.2.2.1, hPI.2.2.2.2.1, hPI.2.2.2.2.2.1, ⟨zan_10 hPI.2.2.2.2.2.2.1.1 _ _ _ _, zAo_an hPI.2.2.2.2.2.2.1.2 hPI.2.1.2 hPI.2.2.1.2 _ _ _ _⟩, hPI.2.2.2.2.2.2.2.1, hPI.2.2.2.2.2.2.2.2⟩
  exact hx _ _ _ ⟨fun k hk => (hf1 1 k (by decide)).trans ((hE1 1 k (Or.inl (by decide))).trans (hmn k hk)), _, _, _, _, _, _, _, _, _, _, _, _, _, _, _, hRI, hPI2, zCI_M hC1 hRI.2.2.2.2.1 hPI2 hf1 hf2, hM2⟩
set_option maxRecDepth 4000 in
theorem l_forget {K : ZKh} {P : Nat → Nat → List Value → List Value → ZMi → ZMl → ZMr → ZRt → Prop} {I : ZMi} {L : ZMl} {R : ZMr} {Q : ZRt} (hP : ZCl K P) (hK : zKa K) (hKb : zKb K) {N i : Nat} (hK0 : K 0 = (30, N)) (hN : N ≤ 2560) (hi : i + 5 ≤ N) (hmn : ∀ k, k < 5 → I 1 k = zmn k) {w v : Nat} (hRI : zRI R w v) {S : ZS} {nS nP nW len na kp n1 n2 : Nat} {T : Nat → Nat} {A A1 A2 : ZA} (hPI : zPI S nS nP nW len T na A kp n1 A1 n2 A2) (hCI : zCI I L w S nS nP nW len T na A kp n1 A1 n2 A2) (hMI : zMI I S nS nP nW len T na A kp n1 A1 n2 A2) (hx : ∀ I L R, zINV I L R → P 176 958 [.ref 0, .ref 2, .ref 119, .int (nI i)] [] I L R Q)  : P 176 619 [.ref 0, .ref 2, .ref 119, .int (nI i)] [] I L R Q := by
  refine r_al hP c176_619 rfl ?_
  refine r_cVip (as := []) (r := []) (a := 2) hP c176_620 rfl (zj2 hK) rfl (fun x I2 L2 R2 => x = nI na ∧ zCI I2 L2 w S nS nP nW len T 0 A kp n1 A1 n2 A2 ∧ zfE I I2 ∧ R = R2) (fun Q2 hq => p_forget hP hK hRI hPI hCI (fun I2 L2 g1 g2 => hq _ I2 L2 _ ⟨rfl, g1, g2, rfl⟩)) ?_
  rintro _ I1 L1 _ ⟨rfl, hC1, hE1, rfl⟩
  refine r_al hP c176_623 rfl ?_
  refine r_cVip (as := []) (r := [.int (nI na)]) (a := 119) hP c176_624 rfl (zj119 hKb) rfl (fun x I2 L2 R2 => x = nI na ∧ zMI I2 S nS nP nW len T 0 A kp n1 A1 n2 A2 ∧ zfM I1 I2 ∧ zfM L1 L2 ∧ R = R2) (fun Q2 hq => q_forget hP hKb hRI.2.1 hPI (zMI_E hMI hPI (fun a k q => hE1 a k (Or.inr q))) (fun I2 L2 g1 g2 g3 => hq _ I2 L2 _ ⟨rfl, g1, g2, g3, rfl⟩)) ?_
  rintro _ I2 L2 _ ⟨rfl, hM2, hf1, hf2, rfl⟩
  refine r_ieq hP c176_627 (fun h627 => ?_) (fun h627 => absurd h627 (not_not_intro rfl))
  have hPI2 : zPI S nS nP nW len T 0 A kp n1 A1 n2 A2 := ⟨hPI.1, hPI.2.1, hPI.2.2.1, hPI.2.2.2.1, hPI.2.2.2.2.1, hPI.2.2.2.2.2.1, ⟨Nat.zero_le _, fun i hi => absurd hi (Nat.not_lt_zero i)⟩, hPI.2.2.2.2.2.2.2.1, hPI.2.2.2.2.2.2.2.2⟩
  exact hx _ _ _ ⟨fun k hk => (hf1 1 k (by decide)).trans ((hE1 1 k (Or.inl (by decide))).trans (hmn k hk)), _, _, _, _, _, _, _, _, _, _, _, _, _, _, _, hRI, hPI2, zCI_M hC1 hRI.2.2.2.2.1 hPI2 hf1 hf2, hM2⟩
set_option maxRecDepth 4000 in
theorem l_keep2 {K : ZKh} {P : Nat → Nat → List Value → List Value → ZMi → ZMl → ZMr → ZRt → Prop} {I : ZMi} {L : ZMl} {R : ZMr} {Q : ZRt} (hP : ZCl K P) (hK : zKa K) (hKb : zKb K) {N i : Nat} (hK0 : K 0 = (30, N)) (hN : N ≤ 2560) (hi : i + 5 ≤ N) (hmn : ∀ k, k < 5 → I 1 k = zmn k) {w v : Nat} (hRI : zRI R w v) {S : ZS} {nS nP nW len na kp n1 n2 : Nat} {T : Nat → Nat} {A A1 A2 : ZA} (hPI : zPI S nS nP nW len T na A kp n1 A1 n2 A2) (hCI : zCI I L w S nS nP nW len T na A kp n1 A1 n2 A2) (hMI : zMI I S nS nP nW len T na A kp n1 A1 n2 A2) (hz : kp = 2) (hx : ∀ I L R, zINV I L R → P 176 958 [.ref 0, .ref 2, .ref 119, .int (nI i)] [] I L R Q)  : P 176 909 [.ref 0, .ref 2, .ref 119, .int (nI i)] [] I L R Q := by
  refine r_al hP c176_909 rfl ?_
  refine r_cVip (as := []) (r := []) (a := 2) hP c176_910 rfl (zj2 hK) rfl (fun x I2 L2 R2 => x = (-3) ∧ zCI I2 L2 w S nS nP nW len T na A kp n1 A1 n2 A2 ∧ zfE I I2 ∧ R = R2) (fun Q2 hq => p_keep2 hP hK hRI hPI hCI hz (fun I2 L2 g1 g2 => hq _ I2 L2 _ ⟨rfl, g1, g2, rfl⟩)) ?_
  rintro _ I1 L1 _ ⟨rfl, hC1, hE1, rfl⟩
  refine r_al hP c176_913 rfl ?_
  refine r_cVip (as := []) (r := [.int (-3)]) (a := 119) hP c176_914 rfl (zj119 hKb) rfl (fun x I2 L2 R2 => x = (-3) ∧ zMI I2 S nS nP nW len T na A kp n1 A1 n2 A2 ∧ zfM I1 I2 ∧ zfM L1 L2 ∧ R = R2) (fun Q2 hq => q_keep2 hP hKb hRI.2.1 hPI (zMI_E hMI hPI (fun a k q => hE1 a k (Or.inr q))) hz (fun I2 L2 g1 g2 g3 => hq _ I2 L2 _ ⟨rfl, g1, g2, g3, rfl⟩)) ?_
  rintro _ I2 L2 _ ⟨rfl, hM2, hf1, hf2, rfl⟩
  refine r_ieq hP c176_917 (fun h917 => ?_) (fun h917 => absurd h917 (not_not_intro rfl))
  have hPI2 : zPI S nS nP nW len T na A kp n1 A1 n2 A2 := hPI
  exact hx _ _ _ ⟨fun k hk => (hf1 1 k (by decide)).trans ((hE1 1 k (Or.inl (by decide))).trans (hmn k hk)), _, _, _, _, _, _, _, _, _, _, _, _, _, _, _, hRI, hPI2, zCI_M hC1 hRI.2.2.2.2.1 hPI2 hf1 hf2, hM2⟩
set_option maxRecDepth 4000 in
theorem l_keep0 {K : ZKh} {P : Nat → Nat → List Value → List Value → ZMi → ZMl → ZMr → ZRt → Prop} {I : ZMi} {L : ZMl} {R : ZMr} {Q : ZRt} (hP : ZCl K P) (hK : zKa K) (hKb : zKb K) {N i : Nat} (hK0 : K 0 = (30, N)) (hN : N ≤ 2560) (hi : i + 5 ≤ N) (hmn : ∀ k, k < 5 → I 1 k = zmn k) {w v : Nat} (hRI : zRI R w v) {S : ZS} {nS nP nW len na kp n1 n2 : Nat} {T : Nat → Nat} {A A1 A2 : ZA} (hPI : zPI S nS nP nW len T na A kp n1 A1 n2 A2) (hCI : zCI I L w S nS nP nW len T na A kp n1 A1 n2 A2) (hMI : zMI I S nS nP nW len T na A kp n1 A1 n2 A2) (hz : kp = 0) (hx : ∀ I L R, zINV I L R → P 176 958 [.ref 0, .ref 2, .ref 119, .int (nI i)] [] I L R Q)  : P 176 909 [.ref 0, .ref 2, .ref 119, .int (nI i)] [] I L R Q := by
  refine r_al hP c176_909 rfl ?_
  refine r_cVip (as := []) (r := []) (a := 2) hP c176_910 rfl (zj2 hK) rfl (fun x I2 L2 R2 => x = 1 ∧ zCI I2 L2 w S nS nP nW len T na A 1 na A n2 A2 ∧ zfE I I2 ∧ R = R2) (fun Q2 hq => p_keep0 hP hK hRI hPI hCI hz (fun I2 L2 g1 g2 => hq _ I2 L2 _ ⟨rfl, g1, g2, rfl⟩)) ?_
  rintro _ I1 L1 _ ⟨rfl, hC1, hE1, rfl⟩
  refine r_al hP c176_913 rfl ?_
  refine r_cVip (as := []) (r := [.int 1]) (a := 119) hP c176_914 rfl (zj119 hKb) rfl (fun x I2 L2 R2 => x = 1 ∧ zMI I2 S nS nP nW len T na A 1 na A n2 A2 ∧ zfM I1 I2 ∧ zfM L1 L2 ∧ R = R2) (fun Q2 hq => q_keep0 hP hKb hRI.2.1 hPI (zMI_E hMI hPI (fun a k q => hE1 a k (Or.inr q))) hz (fun I2 L2 g1 g2 g3 => hq _ I2 L2 _ ⟨rfl, g1, g2, g3, rfl⟩)) ?_
  rintro _ I2 L2 _ ⟨rfl, hM2, hf1, hf2, rfl⟩
  refine r_ieq hP c176_917 (fun h917 => ?_) (fun h917 => absurd h917 (not_not_intro rfl))
  have hPI2 : zPI S nS nP nW len T na A 1 na A n2 A2 := ⟨hPI.1, hPI.2.1, hPI.2.2.1, hPI.2.2.2.1, hPI.2.2.2.2.1, hPI.2.2.2.2.2.1, hPI.2.2.2.2.2.2.1, by decide, fun _ => hPI.2.2.2.2.2.2.1, fun q => absurd q (by decide)⟩
  exact hx _ _ _ ⟨fun k hk => (hf1 1 k (by decide)).trans ((hE1 1 k (Or.inl (by decide))).trans (hmn k hk)), _, _, _, _, _, _, _, _, _, _, _, _, _, _, _, hRI, hPI2, zCI_M hC1 hRI.2.2.2.2.1 hPI2 hf1 hf2, hM2⟩
set_option maxRecDepth 4000 in
theorem l_keep1 {K : ZKh} {P : Nat → Nat → List Value → List Value → ZMi → ZMl → ZMr → ZRt → Prop} {I : ZMi} {L : ZMl} {R : ZMr} {Q : ZRt} (hP : ZCl K P) (hK : zKa K) (hKb : zKb K) {N i : Nat} (hK0 : K 0 = (30, N)) (hN : N ≤ 2560) (hi : i + 5 ≤ N) (hmn : ∀ k, k < 5 → I 1 k = zmn k) {w v : Nat} (hRI : zRI R w v) {S : ZS} {nS nP nW len na kp n1 n2 : Nat} {T : Nat → Nat} {A A1 A2 : ZA} (hPI : zPI S nS nP nW len T na A kp n1 A1 n2 A2) (hCI : zCI I L w S nS nP nW len T na A kp n1 A1 n2 A2) (hMI : zMI I S nS nP nW len T na A kp n1 A1 n2 A2) (hz : kp = 1) (hx : ∀ I L R, zINV I L R → P 176 958 [.ref 0, .ref 2, .ref 119, .int (nI i)] [] I L R Q)  : P 176 909 [.ref 0, .ref 2, .ref 119, .int (nI i)] [] I L R Q := by
  refine r_al hP c176_909 rfl ?_
  refine r_cVip (as := []) (r := []) (a := 2) hP c176_910 rfl (zj2 hK) rfl (fun x I2 L2 R2 => x = 2 ∧ zCI I2 L2 w S nS nP nW len T na A 2 n1 A1 na A ∧ zfE I I2 ∧ R = R2) (fun Q2 hq => p_keep1 hP hK hRI hPI hCI hz (fun I2 L2 g1 g2 => hq _ I2 L2 _ ⟨rfl, g1, g2, rfl⟩)) ?_
  rintro _ I1 L1 _ ⟨rfl, hC1, hE1, rfl⟩
  refine r_al hP c176_913 rfl ?_
  refine r_cVip (as := []) (r := [.int 2]) (a := 119) hP c176_914 rfl (zj119 hKb) rfl (fun x I2 L2 R2 => x = 2 ∧ zMI I2 S nS nP nW len T na A 2 n1 A1 na A ∧ zfM I1 I2 ∧ zfM L1 L2 ∧ R = R2) (fun Q2 hq => q_keep1 hP hKb hRI.2.1 hPI (zMI_E hMI hPI (fun a k q => hE1 a k (Or.inr q))) hz (fun I2 L2 g1 g2 g3 => hq _ I2 L2 _ ⟨rfl, g1, g2, g3, rfl⟩)) ?_
  rintro _ I2 L2 _ ⟨rfl, hM2, hf1, hf2, rfl⟩
  refine r_ieq hP c176_917 (fun h917 => ?_) (fun h917 => absurd h917 (not_not_intro rfl))
  have hPI2 : zPI S nS nP nW len T na A 2 n1 A1 na A := ⟨hPI.1, hPI.2.1, hPI.2.2.1, hPI.2.2.2.1, hPI.2.2.2.2.1, hPI.2.2.2.2.2.1, hPI.2.2.2.2.2.2.1, by decide, fun _ => hPI.2.2.2.2.2.2.2.2.1 (by omega), fun _ => hPI.2.2.2.2.2.2.1⟩
  exact hx _ _ _ ⟨fun k hk => (hf1 1 k (by decide)).trans ((hE1 1 k (Or.inl (by decide))).trans (hmn k hk)), _, _, _, _, _, _, _, _, _, _, _, _, _, _, _, hRI, hPI2, zCI_M hC1 hRI.2.2.2.2.1 hPI2 hf1 hf2, hM2⟩
set_option maxRecDepth 4000 in
theorem l_back0 {K : ZKh} {P : Nat → Nat → List Value → List Value → ZMi → ZMl → ZMr → ZRt → Prop} {I : ZMi} {L : ZMl} {R : ZMr} {Q : ZRt} (hP : ZCl K P) (hK : zKa K) (hKb : zKb K) {N i : Nat} (hK0 : K 0 = (30, N)) (hN : N ≤ 2560) (hi : i + 5 ≤ N) (hmn : ∀ k, k < 5 → I 1 k = zmn k) {w v : Nat} (hRI : zRI R w v) {S : ZS} {nS nP nW len na kp n1 n2 : Nat} {T : Nat → Nat} {A A1 A2 : ZA} (hPI : zPI S nS nP nW len T na A kp n1 A1 n2 A2) (hCI : zCI I L w S nS nP nW len T na A kp n1 A1 n2 A2) (hMI : zMI I S nS nP nW len T na A kp n1 A1 n2 A2) (hz : kp = 0) (hx : ∀ I L R, zINV I L R → P 176 958 [.ref 0, .ref 2, .ref 119, .int (nI i)] [] I L R Q)  : P 176 922 [.ref 0, .ref 2, .ref 119, .int (nI i)] [] I L R Q := by
  refine r_al hP c176_922 rfl ?_
  refine r_cVip (as := []) (r := []) (a := 2) hP c176_923 rfl (zj2 hK) rfl (fun x I2 L2 R2 => x = (-2) ∧ zCI I2 L2 w S nS nP nW len T na A kp n1 A1 n2 A2 ∧ zfE I I2 ∧ R = R2) (fun Q2 hq => p_back0 hP hK hRI hPI hCI hz (fun I2 L2 g1 g2 => hq _ I2 L2 _ ⟨rfl, g1, g2, rfl⟩)) ?_
  rintro _ I1 L1 _ ⟨rfl, hC1, hE1, rfl⟩
  refine r_al hP c176_926 rfl ?_
  refine r_cVip (as := []) (r := [.int (-2)]) (a := 119) hP c176_927 rfl (zj119 hKb) rfl (fun x I2 L2 R2 => x = (-2) ∧ zMI I2 S nS nP nW len T na A kp n1 A1 n2 A2 ∧ zfM I1 I2 ∧ zfM L1 L2 ∧ R = R2) (fun Q2 hq => q_back0 hP hKb hRI.2.1 hPI (zMI_E hMI hPI (fun a k q => hE1 a k (Or.inr q))) hz (fun I2 L2 g1 g2 g3 => hq _ I2 L2 _ ⟨rfl, g1, g2, g3, rfl⟩)) ?_
  rintro _ I2 L2 _ ⟨rfl, hM2, hf1, hf2, rfl⟩
  refine r_ieq hP c176_930 (fun h930 => ?_) (fun h930 => absurd h930 (not_not_intro rfl))
  have hPI2 : zPI S nS nP nW len T na A kp n1 A1 n2 A2 := hPI
  exact hx _ _ _ ⟨fun k hk => (hf1 1 k (by decide)).trans ((hE1 1 k (Or.inl (by decide))).trans (hmn k hk)), _, _, _, _, _, _, _, _, _, _, _, _, _, _, _, hRI, hPI2, zCI_M hC1 hRI.2.2.2.2.1 hPI2 hf1 hf2, hM2⟩
set_option maxRecDepth 4000 in
theorem l_back1 {K : ZKh} {P : Nat → Nat → List Value → List Value → ZMi → ZMl → ZMr → ZRt → Prop} {I : ZMi} {L : ZMl} {R : ZMr} {Q : ZRt} (hP : ZCl K P) (hK : zKa K) (hKb : zKb K) {N i : Nat} (hK0 : K 0 = (30, N)) (hN : N ≤ 2560) (hi : i + 5 ≤ N) (hmn : ∀ k, k < 5 → I 1 k = zmn k) {w v : Nat} (hRI : zRI R w v) {S : ZS} {nS nP nW len na kp n1 n2 : Nat} {T : Nat → Nat} {A A1 A2 : ZA} (hPI : zPI S nS nP nW len T na A kp n1 A1 n2 A2) (hCI : zCI I L w S nS nP nW len T na A kp n1 A1 n2 A2) (hMI : zMI I S nS nP nW len T na A kp n1 A1 n2 A2) (hz : kp = 1) (hx : ∀ I L R, zINV I L R → P 176 958 [.ref 0, .ref 2, .ref 119, .int (nI i)] [] I L R Q)  : P 176 922 [.ref 0, .ref 2, .ref 119, .int (nI i)] [] I L R Q := by
  refine r_al hP c176_922 rfl ?_
  refine r_cVip (as := []) (r := []) (a := 2) hP c176_923 rfl (zj2 hK) rfl (fun x I2 L2 R2 => x = 0 ∧ zCI I2 L2 w S nS nP nW len T n1 A1 0 n1 A1 n2 A2 ∧ zfE I I2 ∧ R = R2) (fun Q2 hq => p_back1 hP hK hRI hPI hCI hz (fun I2 L2 g1 g2 => hq _ I2 L2 _ ⟨rfl, g1, g2, rfl⟩)) ?_
  rintro _ I1 L1 _ ⟨rfl, hC1, hE1, rfl⟩
  refine r_al hP c176_926 rfl ?_
  refine r_cVip (as := []) (r := [.int 0]) (a := 119) hP c176_927 rfl (zj119 hKb) rfl (fun x I2 L2 R2 => x = 0 ∧ zMI I2 S nS nP nW len T n1 A1 0 n1 A1 n2 A2 ∧ zfM I1 I2 ∧ zfM L1 L2 ∧ R = R2) (fun Q2 hq => q_back1 hP hKb hRI.2.1 hPI (zMI_E hMI hPI (fun a k q => hE1 a k (Or.inr q))) hz (fun I2 L2 g1 g2 g3 => hq _ I2 L2 _ ⟨rfl, g1, g2, g3, rfl⟩)) ?_
  rintro _ I2 L2 _ ⟨rfl, hM2, hf1, hf2, rfl⟩
  refine r_ieq hP c176_930 (fun h930 => ?_) (fun h930 => absurd h930 (not_not_intro rfl))
  have hPI2 : zPI S nS nP nW len T n1 A1 0 n1 A1 n2 A2 := ⟨hPI.1, hPI.2.1, hPI.2.2.1, hPI.2.2.2.1, hPI.2.2.2.2.1, hPI.2.2.2.2.2.1, hPI.2.2.2.2.2.2.2.2.1 (by omega), by decide, fun q => absurd q (by decide), fun q => absurd q (by decide)⟩
  exact hx _ _ _ ⟨fun k hk => (hf1 1 k (by decide)).trans ((hE1 1 k (Or.inl (by decide))).trans (hmn k hk)), _, _, _, _, _, _, _, _, _, _, _, _, _, _, _, hRI, hPI2, zCI_M hC1 hRI.2.2.2.2.1 hPI2 hf1 hf2, hM2⟩
set_option maxRecDepth 4000 in
theorem l_back2 {K : ZKh} {P : Nat → Nat → List Value → List Value → ZMi → ZMl → ZMr → ZRt → Prop} {I : ZMi} {L : ZMl} {R : ZMr} {Q : ZRt} (hP : ZCl K P) (hK : zKa K) (hKb : zKb K) {N i : Nat} (hK0 : K 0 = (30, N)) (hN : N ≤ 2560) (hi : i + 5 ≤ N) (hmn : ∀ k, k < 5 → I 1 k = zmn k) {w v : Nat} (hRI : zRI R w v) {S : ZS} {nS nP nW len na kp n1 n2 : Nat} {T : Nat → Nat} {A A1 A2 : ZA} (hPI : zPI S nS nP nW len T na A kp n1 A1 n2 A2) (hCI : zCI I L w S nS nP nW len T na A kp n1 A1 n2 A2) (hMI : zMI I S nS nP nW len T na A kp n1 A1 n2 A2) (hz : kp = 2) (hx : ∀ I L R, zINV I L R → P 176 958 [.ref 0, .ref 2, .ref 119, .int (nI i)] [] I L R Q)  : P 176 922 [.ref 0, .ref 2, .ref 119, .int (nI i)] [] I L R Q := by
  refine r_al hP c176_922 rfl ?_
  refine r_cVip (as := []) (r := []) (a := 2) hP c176_923 rfl (zj2 hK) rfl (fun x I2 L2 R2 => x = 1 ∧ zCI I2 L2 w S nS nP nW len T n2 A2 1 n1 A1 n2 A2 ∧ zfE I I2 ∧ R = R2) (fun Q2 hq => p_back2 hP hK hRI hPI hCI hz (fun I2 L2 g1 g2 => hq _ I2 L2 _ ⟨rfl, g1, g2, rfl⟩)) ?_
  rintro _ I1 L1 _ ⟨rfl, hC1, hE1, rfl⟩
  refine r_al hP c176_926 rfl ?_
  refine r_cVip (as := []) (r := [.int 1]) (a := 119) hP c176_927 rfl (zj119 hKb) rfl (fun x I2 L2 R2 => x = 1 ∧ zMI I2 S nS nP nW len T n2 A2 1 n1 A1 n2 A2 ∧ zfM I1 I2 ∧ zfM L1 L2 ∧ R = R2) (fun Q2 hq => q_back2 hP hKb hRI.2.1 hPI (zMI_E hMI hPI (fun a k q => hE1 a k (Or.inr q))) hz (fun I2 L2 g1 g2 g3 => hq _ I2 L2 _ ⟨rfl, g1, g2, g3, rfl⟩)) ?_
  rintro _ I2 L2 _ ⟨rfl, hM2, hf1, hf2, rfl⟩
  refine r_ieq hP c176_930 (fun h930 => ?_) (fun h930 => absurd h930 (not_not_intro rfl))
  have hPI2 : zPI S nS nP nW len T n2 A2 1 n1 A1 n2 A2 := ⟨hPI.1, hPI.2.1, hPI.2.2.1, hPI.2.2.2.1, hPI.2.2.2.2.1, hPI.2.2.2.2.2.1, hPI.2.2.2.2.2.2.2.2.2 (by omega), by decide, fun _ => hPI.2.2.2.2.2.2.2.2.1 (by omega), fun q => absurd q (by decide)⟩
  exact hx _ _ _ ⟨fun k hk => (hf1 1 k (by decide)).trans ((hE1 1 k (Or.inl (by decide))).trans (hmn k hk)), _, _, _, _, _, _, _, _, _, _, _, _, _, _, _, hRI, hPI2, zCI_M hC1 hRI.2.2.2.2.1 hPI2 hf1 hf2, hM2⟩
set_option maxRecDepth 4000 in
theorem l_step {K : ZKh} {P : Nat → Nat → List Value → List Value → ZMi → ZMl → ZMr → ZRt → Prop} {I : ZMi} {L : ZMl} {R : ZMr} {Q : ZRt} (hP : ZCl K P) (hK : zKa K) (hKb : zKb K) {N i : Nat} (hK0 : K 0 = (30, N)) (hN : N ≤ 2560) (hi0 : i ≤ 5000) (hinv : zINV I L R) (h : ∀ I L R, Q (some (.int 1)) I L R) (hx : i + 5 ≤ N → ∀ I L R, zINV I L R → P 176 18 [.ref 0, .ref 2, .ref 119, .int (nI (i + 5))] [] I L R Q) : P 176 18 [.ref 0, .ref 2, .ref 119, .int (nI i)] [] I L R Q := by
  refine r_il hP c176_18 rfl ?_
  refine r_al hP c176_19 rfl ?_
  refine r_alen (n := N) hP c176_20 hK0 ?_
  refine r_ic hP c176_21 ?_
  refine r_isub hP c176_22 ?_
  refine r_igt hP c176_23 (fun h23 => ?_) (fun h23 => ?_)
  · refine r_ic hP c176_964 ?_
    exact r_zr hP c176_965 (Or.inr rfl) (h _ _ _)
  · have hi : i + 5 ≤ N := zlw_i hN hi0 h23
    refine r_al hP c176_26 rfl ?_
    refine r_il hP c176_27 rfl ?_
    refine r_iald (j := i) (x := I 0 i) hP c176_28 hK0 rfl (by omega) rfl ?_
    refine r_ic hP c176_29 ?_
    refine r_iand hP c176_31 ?_
    refine r_sw hP c176_32 ?_
    have hx2 : ∀ I L R, zINV I L R → P 176 958 [.ref 0, .ref 2, .ref 119, .int (nI i)] [] I L R Q := fun I L R hv => by
      refine r_inc (y := nI (i + 5)) (ls' := [.ref 0, .ref 2, .ref 119, .int (nI (i + 5))]) hP c176_958 rfl (nI_add i 5) rfl ?_
      refine r_goto hP c176_961 ?_
      exact hx hi I L R hv
    have hinv2 := hinv
    obtain ⟨hmn, w, v, S, nS, nP, nW, len, T, na, A, kp, n1, A1, n2, A2, hRI, hPI, hCI, hMI⟩ := hinv
    refine zsw_c (fun _ => ?_) (fun _ => ?_)
    · exact l_write hP hK hKb hK0 hN hi hmn hRI hPI hCI hMI hx2
    refine zsw_c (fun _ => ?_) (fun _ => ?_)
    · exact l_wipe hP hK hKb hK0 hN hi hmn hRI hPI hCI hMI hx2
    refine zsw_c (fun _ => ?_) (fun _ => ?_)
    · exact l_fault hP hK hKb hK0 hN hi hmn hRI hPI hCI hMI hx2
    refine zsw_c (fun _ => ?_) (fun _ => ?_)
    · by_cases hz : zlk (zU_ T len)
      · exact l_lay1 hP hK hKb hK0 hN hi hmn hRI hPI hCI hMI hz hx2
      · exact l_lay0 hP hK hKb hK0 hN hi hmn hRI hPI hCI hMI hz hx2
    refine zsw_c (fun _ => ?_) (fun _ => ?_)
    · exact l_part hP hK hKb hK0 hN hi hmn hRI hPI hCI hMI hx2
    refine zsw_c (fun _ => ?_) (fun _ => ?_)
    · exact l_hum hP hK hKb hK0 hN hi hmn hRI hPI hCI hMI hx2
    refine zsw_c (fun _ => ?_) (fun _ => ?_)
    · exact l_in hP hK hKb hK0 hN hi hmn hRI hPI hCI hMI hx2
    refine zsw_c (fun _ => ?_) (fun _ => ?_)
    · exact l_heard hP hK hKb hK0 hN hi hmn hRI hPI hCI hMI hx2
    refine zsw_c (fun _ => ?_) (fun _ => ?_)
    · exact l_ask hP hK hKb hK0 hN hi hmn hRI hPI hCI hMI hx2
    refine zsw_c (fun _ => ?_) (fun _ => ?_)
    · exact l_risk hP hK hKb hK0 hN hi hmn hRI hPI hCI hMI hx2
    refine zsw_c (fun _ => ?_) (fun _ => ?_)
    · exact l_volts hP hK hKb hK0 hN hi hmn hRI hPI hCI hMI hx2
    refine zsw_c (fun _ => ?_) (fun _ => ?_)
    · exact l_safe hP hK hKb hK0 hN hi hmn hRI hPI hCI hMI hx2
    refine zsw_c (fun _ => ?_) (fun _ => ?_)
    · exact l_answer hP hK hKb hK0 hN hi hmn hRI hPI hCI hMI hx2
    refine zsw_c (fun _ => ?_) (fun _ => ?_)
    · exact l_forget hP hK hKb hK0 hN hi hmn hRI hPI hCI hMI hx2
    refine zsw_c (fun _ => ?_) (fun _ => ?_)
    · exact l_possible hP hK hKb hK0 hN hi hmn hRI hPI hCI hMI hx2
    refine zsw_c (fun _ => ?_) (fun _ => ?_)
    · exact l_odds hP hK hKb hK0 hN hi hmn hRI hPI hCI hMI hx2
    refine zsw_c (fun _ => ?_) (fun _ => ?_)
    · exact l_likeliest hP hK hKb hK0 hN hi hmn hRI hPI hCI hMI hx2
    refine zsw_c (fun _ => ?_) (fun _ => ?_)
    · exact l_next hP hK hKb hK0 hN hi hmn hRI hPI hCI hMI hx2
    refine zsw_c (fun _ => ?_) (fun _ => ?_)
    · exact l_change hP hK hKb hK0 hN hi hmn hRI hPI hCI hMI hx2
    refine zsw_c (fun _ => ?_) (fun _ => ?_)
    · exact l_obo hP hK hKb hK0 hN hi hmn hRI hPI hCI hMI hx2
    refine zsw_c (fun _ => ?_) (fun _ => ?_)
    · exact l_louder hP hK hKb hK0 hN hi hmn hRI hPI hCI hMI hx2
    refine zsw_c (fun _ => ?_) (fun _ => ?_)
    · exact l_howls hP hK hKb hK0 hN hi hmn hRI hPI hCI hMI hx2
    refine zsw_c (fun _ => ?_) (fun _ => ?_)
    · exact l_goes hP hK hKb hK0 hN hi hmn hRI hPI hCI hMI hx2
    refine zsw_c (fun _ => ?_) (fun _ => ?_)
    · exact l_ntg hP hK hKb hK0 hN hi hmn hRI hPI hCI hMI hx2
    refine zsw_c (fun _ => ?_) (fun _ => ?_)
    · exact l_set hP hK hKb hK0 hN hi hmn hRI hPI hCI hMI hx2
    refine zsw_c (fun _ => ?_) (fun _ => ?_)
    · rcases (show kp = 0 ∨ kp = 1 ∨ kp = 2 by have := hPI.2.2.2.2.2.2.2.1; omega) with hz | hz | hz
      · exact l_keep0 hP hK hKb hK0 hN hi hmn hRI hPI hCI hMI hz hx2
      · exact l_keep1 hP hK hKb hK0 hN hi hmn hRI hPI hCI hMI hz hx2
      · exact l_keep2 hP hK hKb hK0 hN hi hmn hRI hPI hCI hMI hz hx2
    refine zsw_c (fun _ => ?_) (fun _ => ?_)
    · rcases (show kp = 0 ∨ kp = 1 ∨ kp = 2 by have := hPI.2.2.2.2.2.2.2.1; omega) with hz | hz | hz
      · exact l_back0 hP hK hKb hK0 hN hi hmn hRI hPI hCI hMI hz hx2
      · exact l_back1 hP hK hKb hK0 hN hi hmn hRI hPI hCI hMI hz hx2
      · exact l_back2 hP hK hKb hK0 hN hi hmn hRI hPI hCI hMI hz hx2
    refine zsw_c (fun _ => ?_) (fun _ => ?_)
    · exact l_count hP hK hKb hK0 hN hi hmn hRI hPI hCI hMI hx2
    refine zsw_n ?_
    exact hx2 I L R hinv2
theorem l_loop {K : ZKh} {P : Nat → Nat → List Value → List Value → ZMi → ZMl → ZMr → ZRt → Prop} {Q : ZRt} (hP : ZCl K P) (hK : zKa K) (hKb : zKb K) {N : Nat} (hK0 : K 0 = (30, N)) (hN : N ≤ 2560) (h : ∀ I L R, Q (some (.int 1)) I L R) : ∀ d i, N ≤ i + d → i ≤ 2600 → ∀ I L R, zINV I L R → P 176 18 [.ref 0, .ref 2, .ref 119, .int (nI i)] [] I L R Q := by
  intro d
  induction d with
  | zero => intro i hd hi I L R hv; exact l_step hP hK hKb hK0 hN (by omega) hv h (fun q => absurd q (by omega))
  | succ d ih => intro i hd hi I L R hv; exact l_step hP hK hKb hK0 hN (by omega) hv h (fun q I L R hv => ih (i + 5) (by omega) (by omega) I L R hv)
theorem l_all {K : ZKh} {P : Nat → Nat → List Value → List Value → ZMi → ZMl → ZMr → ZRt → Prop} {I : ZMi} {L : ZMl} {R : ZMr} {Q : ZRt} (hP : ZCl K P) (hK : zKa K) (hKb : zKb K) {N : Nat} (hK0 : K 0 = (30, N)) (hN : N ≤ 2560) (hinv : zINV I L R) (h : ∀ I L R, Q (some (.int 1)) I L R) : P 176 16 [.ref 0, .ref 2, .ref 119, .null] [] I L R Q := by
  refine r_ic hP c176_16 ?_
  refine r_is (ls' := [.ref 0, .ref 2, .ref 119, .int 0]) hP c176_17 (Nat.le_of_ble_eq_true rfl) rfl ?_
  exact l_loop hP hK hKb hK0 hN h N 0 (by omega) (by omega) I L R hinv
