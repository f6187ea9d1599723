/-! dep: 89 90 91 92 -/
/-! ===== printed by gen/specs/gen92.py: the law's cases ===== -/
theorem z_n83 {x c : Int} (h : ((8 : Nat), c) = (3, x)) : False := absurd (congrArg Prod.fst h) (show ¬ ((8 : Nat) = 3) by decide)
theorem z_n84 {x c : Int} (h : ((8 : Nat), c) = (4, x)) : False := absurd (congrArg Prod.fst h) (show ¬ ((8 : Nat) = 4) by decide)
section ZLC
variable {L : Nat} {xs : Nat → Int32} {i : Int} {M : zM} {bc bs : Nat} {Q : zV → zS → zM → Prop}
theorem l_addWind (R9 : zRl M) (hi : 0 ≤ i ∧ i + 3 ≤ (L : Int)) (hL : L ≤ 1536) (kk : ∀ M', zRl M' → z_Ex (mL_law L xs) zF 2540 [(1, -98), (1, 1), (1, 517), (1, 529), (1, 530), (0, i), (9, 0), (9, 0), (9, 0)] [] M' bc bs Q) : z_Ex (mL_law L xs) zF 256 [(1, -98), (1, 1), (1, 517), (1, 529), (1, 530), (0, i), (9, 0), (9, 0), (9, 0)] [] M (bc + 3) (bs + 18) Q := by
  obtain ⟨P, hW, hJ⟩ := jj_addWind R9
  refine zr_aloadn (k := 1) (q := 257) rfl dL_law_256 rfl ?_
  refine zr_aloadn (k := 3) (q := 258) rfl dL_law_257 rfl ?_
  refine zr_callSH (st := []) (as := [(1, 1), (1, 529)]) (n := 2) (q := 261) hW (fun k S9 M9 h => by
      obtain ⟨-, k2, h2, -⟩ := hJ _ _ _ h
      exact z_n8' h2) hyL_addWind hiL_addWind hpL_addWind hsL_addWind wkL_146 dL_law_258 rfl rfl ⟨Nat.le_of_ble_eq_true rfl, Nat.le_of_ble_eq_true rfl, rfl⟩ rfl (Nat.zero_le _) (show 1 ≤ bc + 3 by omega) (show 6 ≤ bs + 18 by omega) (fun r S1 M1 h8 hP => ?_)
  obtain ⟨rfl, k, rfl, P2, hm, h2⟩ := hJ _ _ _ hP
  refine zr_istore (i := 6) (q := 263) dL_law_261 rfl (show 6 < 9 by decide) rfl ?_
  refine zr_aloadn (k := 2) (q := 264) rfl dL_law_263 rfl ?_
  refine zf_callV0 k517 hm mtX12_addWind wiX12_addWind weX12_addWind wkL_151 (q := 267) dL_law_264 rfl rfl rfl rfl rfl rfl rfl (fun r S2 M2 h9 hP2 => ?_) (fun k3 S9 M9 hP2 => by
      obtain ⟨-, b, h9, -⟩ := h2 _ _ _ hP2
      exact (z_n8' h9).elim)
  obtain ⟨rfl, b, rfl, e1, e2, R2⟩ := h2 _ _ _ hP2
  refine zr_istore (i := 7) (q := 269) dL_law_267 rfl (show 7 < 9 by decide) rfl ?_
  exact tl_int (p := 269) dL_law_269 dL_law_270 dL_law_273 dL_law_275 dL_law_280 dL_law_282 dL_law_285 dL_law_286 dL_law_287 dL_law_288 dL_law_290 dL_law_291 dL_law_292 dL_law_297 (by decide) e1 (fun c => (e2 c).1) (zr_room (zr_fg3 (kk M2 R2)) (show bc ≤ bc + 3 - 1 - 0 - 0 by omega) (show bs ≤ bs + 18 - 6 - 0 - 0 by omega))
theorem l_withdraw (R9 : zRl M) (hi : 0 ≤ i ∧ i + 3 ≤ (L : Int)) (hL : L ≤ 1536) (kk : ∀ M', zRl M' → z_Ex (mL_law L xs) zF 2540 [(1, -98), (1, 1), (1, 517), (1, 529), (1, 530), (0, i), (9, 0), (9, 0), (9, 0)] [] M' bc bs Q) : z_Ex (mL_law L xs) zF 300 [(1, -98), (1, 1), (1, 517), (1, 529), (1, 530), (0, i), (9, 0), (9, 0), (9, 0)] [] M (bc + 3) (bs + 18) Q := by
  obtain ⟨P, hW, hJ⟩ := jj_withdraw (p0 := (xs (i + 1).toNat).toInt) R9
  refine zr_aloadn (k := 1) (q := 301) rfl dL_law_300 rfl ?_
  refine zr_aloadn (k := 0) (q := 302) rfl dL_law_301 rfl ?_
  refine zr_iload (n := 0) (i := 5) (q := 304) rfl dL_law_302 rfl ?_
  refine zr_iconst (q := 305) dL_law_304 rfl (z_in_of rfl) ?_
  refine zr_iadd (q := 306) dL_law_305 rfl (fun _ _ => ⟨by omega, by omega⟩) ?_
  refine zr_sald (q := 307) (fun _ _ h => h) (by omega) (by omega) dL_law_306 rfl ?_
  refine zr_aloadn (k := 3) (q := 308) rfl dL_law_307 rfl ?_
  refine zr_callSH (st := []) (as := [(1, 1), (0, (xs (i + 1).toNat).toInt), (1, 529)]) (n := 3) (q := 311) hW (fun k S9 M9 h => by
      obtain ⟨-, k2, h2, -⟩ := hJ _ _ _ h
      exact z_n8' h2) hyL_withdraw hiL_withdraw hpL_withdraw hsL_withdraw wkL_155 dL_law_308 rfl rfl ⟨Nat.le_of_ble_eq_true rfl, Nat.le_of_ble_eq_true rfl, rfl⟩ rfl (Nat.zero_le _) (show 1 ≤ bc + 3 by omega) (show 6 ≤ bs + 18 by omega) (fun r S1 M1 h8 hP => ?_)
  obtain ⟨rfl, k, rfl, P2, hm, h2⟩ := hJ _ _ _ hP
  refine zr_istore (i := 6) (q := 313) dL_law_311 rfl (show 6 < 9 by decide) rfl ?_
  refine zr_aloadn (k := 2) (q := 314) rfl dL_law_313 rfl ?_
  refine zr_aloadn (k := 0) (q := 315) rfl dL_law_314 rfl ?_
  refine zr_iload (n := 0) (i := 5) (q := 317) rfl dL_law_315 rfl ?_
  refine zr_iconst (q := 318) dL_law_317 rfl (z_in_of rfl) ?_
  refine zr_iadd (q := 319) dL_law_318 rfl (fun _ _ => ⟨by omega, by omega⟩) ?_
  refine zr_sald (q := 320) (fun _ _ h => h) (by omega) (by omega) dL_law_319 rfl ?_
  refine zf_callV1 k517 hm mtX12_withdraw wiX12_withdraw weX12_withdraw wkL_158 (q := 323) dL_law_320 rfl rfl rfl rfl rfl rfl rfl (fun r S2 M2 h9 hP2 => ?_) (fun k3 S9 M9 hP2 => by
      obtain ⟨-, b, h9, -⟩ := h2 _ _ _ hP2
      exact (z_n8' h9).elim)
  obtain ⟨rfl, b, rfl, e1, e2, R2⟩ := h2 _ _ _ hP2
  refine zr_istore (i := 7) (q := 325) dL_law_323 rfl (show 7 < 9 by decide) rfl ?_
  exact tl_int (p := 325) dL_law_325 dL_law_326 dL_law_329 dL_law_331 dL_law_336 dL_law_338 dL_law_341 dL_law_342 dL_law_343 dL_law_344 dL_law_346 dL_law_347 dL_law_348 dL_law_353 (by decide) e1 (fun c => (e2 c).1) (zr_room (zr_fg3 (kk M2 R2)) (show bc ≤ bc + 3 - 1 - 0 - 0 by omega) (show bs ≤ bs + 18 - 6 - 0 - 0 by omega))
theorem l_windCount (R9 : zRl M) (hi : 0 ≤ i ∧ i + 3 ≤ (L : Int)) (hL : L ≤ 1536) (kk : ∀ M', zRl M' → z_Ex (mL_law L xs) zF 2540 [(1, -98), (1, 1), (1, 517), (1, 529), (1, 530), (0, i), (9, 0), (9, 0), (9, 0)] [] M' bc bs Q) : z_Ex (mL_law L xs) zF 356 [(1, -98), (1, 1), (1, 517), (1, 529), (1, 530), (0, i), (9, 0), (9, 0), (9, 0)] [] M (bc + 3) (bs + 18) Q := by
  obtain ⟨P, hW, hJ⟩ := jj_windCount R9
  refine zr_aloadn (k := 1) (q := 357) rfl dL_law_356 rfl ?_
  refine zf_callV0 k1 hW mtX11_windCount wiX11_windCount weX11_windCount wkL_159 (q := 360) dL_law_357 rfl rfl rfl rfl rfl rfl (by simp only [Bool.and_eq_true]; exact ⟨Nat.ble_eq.mpr (show 0 ≤ bc + 3 by omega), Nat.ble_eq.mpr (show 0 ≤ bs + 18 by omega)⟩) (fun r S1 M1 h8 hP => ?_) (fun k3 S9 M9 hP => by
      obtain ⟨-, k2, h2, -⟩ := hJ _ _ _ hP
      exact (z_n8' h2).elim)
  obtain ⟨rfl, v, rfl, P2, hm, h2⟩ := hJ _ _ _ hP
  refine zr_aloadn (k := 2) (q := 361) rfl dL_law_360 rfl ?_
  refine zf_callV0 k517 hm mtX12_windCount wiX12_windCount weX12_windCount wkL_162 (q := 364) dL_law_361 rfl rfl rfl rfl rfl rfl rfl (fun r S2 M2 h9 hP2 => ?_) (fun k3 S9 M9 hP2 => by
      exact (z_n8' (h2 _ _ _ hP2).2.1).elim)
  obtain ⟨rfl, rfl, R2⟩ := h2 _ _ _ hP2
  exact zr_icmp_eq (q := 2540) (q2 := 367) dL_law_364 (by decide) rfl (fun _ => zr_room (kk M2 R2) (show bc ≤ bc + 3 - 0 - 0 by omega) (show bs ≤ bs + 18 - 0 - 0 by omega)) (fun c => absurd rfl c)
theorem l_standingCount (R9 : zRl M) (hi : 0 ≤ i ∧ i + 3 ≤ (L : Int)) (hL : L ≤ 1536) (kk : ∀ M', zRl M' → z_Ex (mL_law L xs) zF 2540 [(1, -98), (1, 1), (1, 517), (1, 529), (1, 530), (0, i), (9, 0), (9, 0), (9, 0)] [] M' bc bs Q) : z_Ex (mL_law L xs) zF 369 [(1, -98), (1, 1), (1, 517), (1, 529), (1, 530), (0, i), (9, 0), (9, 0), (9, 0)] [] M (bc + 3) (bs + 18) Q := by
  obtain ⟨P, hW, hJ⟩ := jj_standingCount R9
  refine zr_aloadn (k := 1) (q := 370) rfl dL_law_369 rfl ?_
  refine zf_callV0 k1 hW mtX11_standingCount wiX11_standingCount weX11_standingCount wkL_163 (q := 373) dL_law_370 rfl rfl rfl rfl rfl rfl (by simp only [Bool.and_eq_true]; exact ⟨Nat.ble_eq.mpr (show 0 ≤ bc + 3 by omega), Nat.ble_eq.mpr (show 0 ≤ bs + 18 by omega)⟩) (fun r S1 M1 h8 hP => ?_) (fun k3 S9 M9 hP => by
      obtain ⟨-, k2, h2, -⟩ := hJ _ _ _ hP
      exact (z_n8' h2).elim)
  obtain ⟨rfl, v, rfl, P2, hm, h2⟩ := hJ _ _ _ hP
  refine zr_aloadn (k := 2) (q := 374) rfl dL_law_373 rfl ?_
  refine zf_callV0 k517 hm mtX12_standingCount wiX12_standingCount weX12_standingCount wkL_166 (q := 377) dL_law_374 rfl rfl rfl rfl rfl rfl rfl (fun r S2 M2 h9 hP2 => ?_) (fun k3 S9 M9 hP2 => by
      exact (z_n8' (h2 _ _ _ hP2).2.1).elim)
  obtain ⟨rfl, rfl, R2⟩ := h2 _ _ _ hP2
  exact zr_icmp_eq (q := 2540) (q2 := 380) dL_law_377 (by decide) rfl (fun _ => zr_room (kk M2 R2) (show bc ≤ bc + 3 - 0 - 0 by omega) (show bs ≤ bs + 18 - 0 - 0 by omega)) (fun c => absurd rfl c)
theorem l_isStanding (R9 : zRl M) (hi : 0 ≤ i ∧ i + 3 ≤ (L : Int)) (hL : L ≤ 1536) (kk : ∀ M', zRl M' → z_Ex (mL_law L xs) zF 2540 [(1, -98), (1, 1), (1, 517), (1, 529), (1, 530), (0, i), (9, 0), (9, 0), (9, 0)] [] M' bc bs Q) : z_Ex (mL_law L xs) zF 382 [(1, -98), (1, 1), (1, 517), (1, 529), (1, 530), (0, i), (9, 0), (9, 0), (9, 0)] [] M (bc + 3) (bs + 18) Q := by
  obtain ⟨P, hW, hJ⟩ := jj_isStanding (p0 := (xs (i + 1).toNat).toInt) R9
  refine zr_aloadn (k := 1) (q := 383) rfl dL_law_382 rfl ?_
  refine zr_aloadn (k := 0) (q := 384) rfl dL_law_383 rfl ?_
  refine zr_iload (n := 0) (i := 5) (q := 386) rfl dL_law_384 rfl ?_
  refine zr_iconst (q := 387) dL_law_386 rfl (z_in_of rfl) ?_
  refine zr_iadd (q := 388) dL_law_387 rfl (fun _ _ => ⟨by omega, by omega⟩) ?_
  refine zr_sald (q := 389) (fun _ _ h => h) (by omega) (by omega) dL_law_388 rfl ?_
  refine zr_aloadn (k := 3) (q := 390) rfl dL_law_389 rfl ?_
  refine zr_callSH (st := []) (as := [(1, 1), (0, (xs (i + 1).toNat).toInt), (1, 529)]) (n := 3) (q := 393) hW (fun k S9 M9 h => by
      obtain ⟨-, k2, h2, -⟩ := hJ _ _ _ h
      exact z_n8' h2) hyL_isStanding hiL_isStanding hpL_isStanding hsL_isStanding wkL_167 dL_law_390 rfl rfl ⟨Nat.le_of_ble_eq_true rfl, Nat.le_of_ble_eq_true rfl, rfl⟩ rfl (Nat.zero_le _) (show 1 ≤ bc + 3 by omega) (show 6 ≤ bs + 18 by omega) (fun r S1 M1 h8 hP => ?_)
  obtain ⟨rfl, k, rfl, P2, hm, h2⟩ := hJ _ _ _ hP
  refine zr_istore (i := 6) (q := 395) dL_law_393 rfl (show 6 < 9 by decide) rfl ?_
  refine zr_aloadn (k := 2) (q := 396) rfl dL_law_395 rfl ?_
  refine zr_aloadn (k := 0) (q := 397) rfl dL_law_396 rfl ?_
  refine zr_iload (n := 0) (i := 5) (q := 399) rfl dL_law_397 rfl ?_
  refine zr_iconst (q := 400) dL_law_399 rfl (z_in_of rfl) ?_
  refine zr_iadd (q := 401) dL_law_400 rfl (fun _ _ => ⟨by omega, by omega⟩) ?_
  refine zr_sald (q := 402) (fun _ _ h => h) (by omega) (by omega) dL_law_401 rfl ?_
  refine zf_callV1 k517 hm mtX12_isStanding wiX12_isStanding weX12_isStanding wkL_169 (q := 405) dL_law_402 rfl rfl rfl rfl rfl rfl rfl (fun r S2 M2 h9 hP2 => ?_) (fun k3 S9 M9 hP2 => by
      obtain ⟨-, b, h9, -⟩ := h2 _ _ _ hP2
      exact (z_n8' h9).elim)
  obtain ⟨rfl, b, rfl, e1, e2, R2⟩ := h2 _ _ _ hP2
  refine zr_istore (i := 7) (q := 407) dL_law_405 rfl (show 7 < 9 by decide) rfl ?_
  exact tl_bool (p := 407) dL_law_407 dL_law_408 dL_law_411 dL_law_413 dL_law_418 dL_law_420 dL_law_423 dL_law_424 dL_law_425 dL_law_426 dL_law_428 dL_law_431 dL_law_432 dL_law_435 dL_law_436 dL_law_437 dL_law_442 (by decide) e1 e2 (zr_room (zr_fg3 (kk M2 R2)) (show bc ≤ bc + 3 - 1 - 0 - 0 by omega) (show bs ≤ bs + 18 - 6 - 0 - 0 by omega))
theorem l_hasSeat (R9 : zRl M) (hi : 0 ≤ i ∧ i + 3 ≤ (L : Int)) (hL : L ≤ 1536) (kk : ∀ M', zRl M' → z_Ex (mL_law L xs) zF 2540 [(1, -98), (1, 1), (1, 517), (1, 529), (1, 530), (0, i), (9, 0), (9, 0), (9, 0)] [] M' bc bs Q) : z_Ex (mL_law L xs) zF 445 [(1, -98), (1, 1), (1, 517), (1, 529), (1, 530), (0, i), (9, 0), (9, 0), (9, 0)] [] M (bc + 3) (bs + 18) Q := by
  obtain ⟨P, hW, hJ⟩ := jj_hasSeat (p0 := (xs (i + 1).toNat).toInt) R9
  refine zr_aloadn (k := 1) (q := 446) rfl dL_law_445 rfl ?_
  refine zr_aloadn (k := 0) (q := 447) rfl dL_law_446 rfl ?_
  refine zr_iload (n := 0) (i := 5) (q := 449) rfl dL_law_447 rfl ?_
  refine zr_iconst (q := 450) dL_law_449 rfl (z_in_of rfl) ?_
  refine zr_iadd (q := 451) dL_law_450 rfl (fun _ _ => ⟨by omega, by omega⟩) ?_
  refine zr_sald (q := 452) (fun _ _ h => h) (by omega) (by omega) dL_law_451 rfl ?_
  refine zr_aloadn (k := 3) (q := 453) rfl dL_law_452 rfl ?_
  refine zr_callSH (st := []) (as := [(1, 1), (0, (xs (i + 1).toNat).toInt), (1, 529)]) (n := 3) (q := 456) hW (fun k S9 M9 h => by
      obtain ⟨-, k2, h2, -⟩ := hJ _ _ _ h
      exact z_n8' h2) hyL_hasSeat hiL_hasSeat hpL_hasSeat hsL_hasSeat wkL_170 dL_law_453 rfl rfl ⟨Nat.le_of_ble_eq_true rfl, Nat.le_of_ble_eq_true rfl, rfl⟩ rfl (Nat.zero_le _) (show 1 ≤ bc + 3 by omega) (show 6 ≤ bs + 18 by omega) (fun r S1 M1 h8 hP => ?_)
  obtain ⟨rfl, k, rfl, P2, hm, h2⟩ := hJ _ _ _ hP
  refine zr_istore (i := 6) (q := 458) dL_law_456 rfl (show 6 < 9 by decide) rfl ?_
  refine zr_aloadn (k := 2) (q := 459) rfl dL_law_458 rfl ?_
  refine zr_aloadn (k := 0) (q := 460) rfl dL_law_459 rfl ?_
  refine zr_iload (n := 0) (i := 5) (q := 462) rfl dL_law_460 rfl ?_
  refine zr_iconst (q := 463) dL_law_462 rfl (z_in_of rfl) ?_
  refine zr_iadd (q := 464) dL_law_463 rfl (fun _ _ => ⟨by omega, by omega⟩) ?_
  refine zr_sald (q := 465) (fun _ _ h => h) (by omega) (by omega) dL_law_464 rfl ?_
  refine zf_callV1 k517 hm mtX12_hasSeat wiX12_hasSeat weX12_hasSeat wkL_172 (q := 468) dL_law_465 rfl rfl rfl rfl rfl rfl rfl (fun r S2 M2 h9 hP2 => ?_) (fun k3 S9 M9 hP2 => by
      obtain ⟨-, b, h9, -⟩ := h2 _ _ _ hP2
      exact (z_n8' h9).elim)
  obtain ⟨rfl, b, rfl, e1, e2, R2⟩ := h2 _ _ _ hP2
  refine zr_istore (i := 7) (q := 470) dL_law_468 rfl (show 7 < 9 by decide) rfl ?_
  exact tl_bool (p := 470) dL_law_470 dL_law_471 dL_law_474 dL_law_476 dL_law_481 dL_law_483 dL_law_486 dL_law_487 dL_law_488 dL_law_489 dL_law_491 dL_law_494 dL_law_495 dL_law_498 dL_law_499 dL_law_500 dL_law_505 (by decide) e1 e2 (zr_room (zr_fg3 (kk M2 R2)) (show bc ≤ bc + 3 - 1 - 0 - 0 by omega) (show bs ≤ bs + 18 - 6 - 0 - 0 by omega))
theorem l_addBallot (R9 : zRl M) (hi : 0 ≤ i ∧ i + 3 ≤ (L : Int)) (hL : L ≤ 1536) (kk : ∀ M', zRl M' → z_Ex (mL_law L xs) zF 2540 [(1, -98), (1, 1), (1, 517), (1, 529), (1, 530), (0, i), (9, 0), (9, 0), (9, 0)] [] M' bc bs Q) : z_Ex (mL_law L xs) zF 508 [(1, -98), (1, 1), (1, 517), (1, 529), (1, 530), (0, i), (9, 0), (9, 0), (9, 0)] [] M (bc + 3) (bs + 18) Q := by
  obtain ⟨P, hW, hJ⟩ := jj_addBallot (p0 := (xs (i + 1).toNat).toInt) (p1 := (xs (i + 2).toNat).toInt) R9
  refine zr_aloadn (k := 1) (q := 509) rfl dL_law_508 rfl ?_
  refine zr_aloadn (k := 0) (q := 510) rfl dL_law_509 rfl ?_
  refine zr_iload (n := 0) (i := 5) (q := 512) rfl dL_law_510 rfl ?_
  refine zr_iconst (q := 513) dL_law_512 rfl (z_in_of rfl) ?_
  refine zr_iadd (q := 514) dL_law_513 rfl (fun _ _ => ⟨by omega, by omega⟩) ?_
  refine zr_sald (q := 515) (fun _ _ h => h) (by omega) (by omega) dL_law_514 rfl ?_
  refine zr_aloadn (k := 0) (q := 516) rfl dL_law_515 rfl ?_
  refine zr_iload (n := 0) (i := 5) (q := 518) rfl dL_law_516 rfl ?_
  refine zr_iconst (q := 519) dL_law_518 rfl (z_in_of rfl) ?_
  refine zr_iadd (q := 520) dL_law_519 rfl (fun _ _ => ⟨by omega, by omega⟩) ?_
  refine zr_sald (q := 521) (fun _ _ h => h) (by omega) (by omega) dL_law_520 rfl ?_
  refine zr_aloadn (k := 3) (q := 522) rfl dL_law_521 rfl ?_
  refine zr_callSH (st := []) (as := [(1, 1), (0, (xs (i + 1).toNat).toInt), (0, (xs (i + 2).toNat).toInt), (1, 529)]) (n := 4) (q := 525) hW (fun k S9 M9 h => by
      obtain ⟨-, k2, h2, -⟩ := hJ _ _ _ h
      exact z_n8' h2) hyL_addBallot hiL_addBallot hpL_addBallot hsL_addBallot wkL_173 dL_law_522 rfl rfl ⟨Nat.le_of_ble_eq_true rfl, Nat.le_of_ble_eq_true rfl, rfl⟩ rfl (Nat.zero_le _) (show 1 ≤ bc + 3 by omega) (show 6 ≤ bs + 18 by omega) (fun r S1 M1 h8 hP => ?_)
  obtain ⟨rfl, k, rfl, P2, hm, h2⟩ := hJ _ _ _ hP
  refine zr_istore (i := 6) (q := 527) dL_law_525 rfl (show 6 < 9 by decide) rfl ?_
  refine zr_aloadn (k := 2) (q := 528) rfl dL_law_527 rfl ?_
  refine zr_aloadn (k := 0) (q := 529) rfl dL_law_528 rfl ?_
  refine zr_iload (n := 0) (i := 5) (q := 531) rfl dL_law_529 rfl ?_
  refine zr_iconst (q := 532) dL_law_531 rfl (z_in_of rfl) ?_
  refine zr_iadd (q := 533) dL_law_532 rfl (fun _ _ => ⟨by omega, by omega⟩) ?_
  refine zr_sald (q := 534) (fun _ _ h => h) (by omega) (by omega) dL_law_533 rfl ?_
  refine zr_aloadn (k := 0) (q := 535) rfl dL_law_534 rfl ?_
  refine zr_iload (n := 0) (i := 5) (q := 537) rfl dL_law_535 rfl ?_
  refine zr_iconst (q := 538) dL_law_537 rfl (z_in_of rfl) ?_
  refine zr_iadd (q := 539) dL_law_538 rfl (fun _ _ => ⟨by omega, by omega⟩) ?_
  refine zr_sald (q := 540) (fun _ _ h => h) (by omega) (by omega) dL_law_539 rfl ?_
  refine zf_callV2 k517 hm mtX12_addBallot wiX12_addBallot weX12_addBallot wkL_176 (q := 543) dL_law_540 rfl rfl rfl rfl rfl rfl rfl (fun r S2 M2 h9 hP2 => ?_) (fun k3 S9 M9 hP2 => by
      obtain ⟨-, b, h9, -⟩ := h2 _ _ _ hP2
      exact (z_n8' h9).elim)
  obtain ⟨rfl, b, rfl, e1, e2, R2⟩ := h2 _ _ _ hP2
  refine zr_istore (i := 7) (q := 545) dL_law_543 rfl (show 7 < 9 by decide) rfl ?_
  exact tl_int (p := 545) dL_law_545 dL_law_546 dL_law_549 dL_law_551 dL_law_556 dL_law_558 dL_law_561 dL_law_562 dL_law_563 dL_law_564 dL_law_566 dL_law_567 dL_law_568 dL_law_573 (by decide) e1 (fun c => (e2 c).1) (zr_room (zr_fg3 (kk M2 R2)) (show bc ≤ bc + 3 - 1 - 0 - 0 by omega) (show bs ≤ bs + 18 - 6 - 0 - 0 by omega))
theorem l_rank (R9 : zRl M) (hi : 0 ≤ i ∧ i + 3 ≤ (L : Int)) (hL : L ≤ 1536) (kk : ∀ M', zRl M' → z_Ex (mL_law L xs) zF 2540 [(1, -98), (1, 1), (1, 517), (1, 529), (1, 530), (0, i), (9, 0), (9, 0), (9, 0)] [] M' bc bs Q) : z_Ex (mL_law L xs) zF 576 [(1, -98), (1, 1), (1, 517), (1, 529), (1, 530), (0, i), (9, 0), (9, 0), (9, 0)] [] M (bc + 3) (bs + 18) Q := by
  obtain ⟨P, hW, hJ⟩ := jj_rank (p0 := (xs (i + 1).toNat).toInt) (p1 := (xs (i + 2).toNat).toInt) R9
  refine zr_aloadn (k := 1) (q := 577) rfl dL_law_576 rfl ?_
  refine zr_aloadn (k := 0) (q := 578) rfl dL_law_577 rfl ?_
  refine zr_iload (n := 0) (i := 5) (q := 580) rfl dL_law_578 rfl ?_
  refine zr_iconst (q := 581) dL_law_580 rfl (z_in_of rfl) ?_
  refine zr_iadd (q := 582) dL_law_581 rfl (fun _ _ => ⟨by omega, by omega⟩) ?_
  refine zr_sald (q := 583) (fun _ _ h => h) (by omega) (by omega) dL_law_582 rfl ?_
  refine zr_aloadn (k := 0) (q := 584) rfl dL_law_583 rfl ?_
  refine zr_iload (n := 0) (i := 5) (q := 586) rfl dL_law_584 rfl ?_
  refine zr_iconst (q := 587) dL_law_586 rfl (z_in_of rfl) ?_
  refine zr_iadd (q := 588) dL_law_587 rfl (fun _ _ => ⟨by omega, by omega⟩) ?_
  refine zr_sald (q := 589) (fun _ _ h => h) (by omega) (by omega) dL_law_588 rfl ?_
  refine zr_aloadn (k := 3) (q := 590) rfl dL_law_589 rfl ?_
  refine zr_callSH (st := []) (as := [(1, 1), (0, (xs (i + 1).toNat).toInt), (0, (xs (i + 2).toNat).toInt), (1, 529)]) (n := 4) (q := 593) hW (fun k S9 M9 h => by
      obtain ⟨-, k2, h2, -⟩ := hJ _ _ _ h
      exact z_n8' h2) hyL_rank hiL_rank hpL_rank hsL_rank wkL_177 dL_law_590 rfl rfl ⟨Nat.le_of_ble_eq_true rfl, Nat.le_of_ble_eq_true rfl, rfl⟩ rfl (Nat.zero_le _) (show 2 ≤ bc + 3 by omega) (show 12 ≤ bs + 18 by omega) (fun r S1 M1 h8 hP => ?_)
  obtain ⟨rfl, k, rfl, P2, hm, h2⟩ := hJ _ _ _ hP
  refine zr_istore (i := 6) (q := 595) dL_law_593 rfl (show 6 < 9 by decide) rfl ?_
  refine zr_aloadn (k := 2) (q := 596) rfl dL_law_595 rfl ?_
  refine zr_aloadn (k := 0) (q := 597) rfl dL_law_596 rfl ?_
  refine zr_iload (n := 0) (i := 5) (q := 599) rfl dL_law_597 rfl ?_
  refine zr_iconst (q := 600) dL_law_599 rfl (z_in_of rfl) ?_
  refine zr_iadd (q := 601) dL_law_600 rfl (fun _ _ => ⟨by omega, by omega⟩) ?_
  refine zr_sald (q := 602) (fun _ _ h => h) (by omega) (by omega) dL_law_601 rfl ?_
  refine zr_aloadn (k := 0) (q := 603) rfl dL_law_602 rfl ?_
  refine zr_iload (n := 0) (i := 5) (q := 605) rfl dL_law_603 rfl ?_
  refine zr_iconst (q := 606) dL_law_605 rfl (z_in_of rfl) ?_
  refine zr_iadd (q := 607) dL_law_606 rfl (fun _ _ => ⟨by omega, by omega⟩) ?_
  refine zr_sald (q := 608) (fun _ _ h => h) (by omega) (by omega) dL_law_607 rfl ?_
  refine zf_callV2 k517 hm mtX12_rank wiX12_rank weX12_rank wkL_179 (q := 611) dL_law_608 rfl rfl rfl rfl rfl rfl rfl (fun r S2 M2 h9 hP2 => ?_) (fun k3 S9 M9 hP2 => by
      obtain ⟨-, b, h9, -⟩ := h2 _ _ _ hP2
      exact (z_n8' h9).elim)
  obtain ⟨rfl, b, rfl, e1, e2, R2⟩ := h2 _ _ _ hP2
  refine zr_istore (i := 7) (q := 613) dL_law_611 rfl (show 7 < 9 by decide) rfl ?_
  exact tl_int (p := 613) dL_law_613 dL_law_614 dL_law_617 dL_law_619 dL_law_624 dL_law_626 dL_law_629 dL_law_630 dL_law_631 dL_law_632 dL_law_634 dL_law_635 dL_law_636 dL_law_641 (by decide) e1 (fun c => (e2 c).1) (zr_room (zr_fg3 (kk M2 R2)) (show bc ≤ bc + 3 - 2 - 0 - 0 by omega) (show bs ≤ bs + 18 - 12 - 0 - 0 by omega))
theorem l_removeBallot (R9 : zRl M) (hi : 0 ≤ i ∧ i + 3 ≤ (L : Int)) (hL : L ≤ 1536) (kk : ∀ M', zRl M' → z_Ex (mL_law L xs) zF 2540 [(1, -98), (1, 1), (1, 517), (1, 529), (1, 530), (0, i), (9, 0), (9, 0), (9, 0)] [] M' bc bs Q) : z_Ex (mL_law L xs) zF 644 [(1, -98), (1, 1), (1, 517), (1, 529), (1, 530), (0, i), (9, 0), (9, 0), (9, 0)] [] M (bc + 3) (bs + 18) Q := by
  obtain ⟨P, hW, hJ⟩ := jj_removeBallot (p0 := (xs (i + 1).toNat).toInt) R9
  refine zr_aloadn (k := 1) (q := 645) rfl dL_law_644 rfl ?_
  refine zr_aloadn (k := 0) (q := 646) rfl dL_law_645 rfl ?_
  refine zr_iload (n := 0) (i := 5) (q := 648) rfl dL_law_646 rfl ?_
  refine zr_iconst (q := 649) dL_law_648 rfl (z_in_of rfl) ?_
  refine zr_iadd (q := 650) dL_law_649 rfl (fun _ _ => ⟨by omega, by omega⟩) ?_
  refine zr_sald (q := 651) (fun _ _ h => h) (by omega) (by omega) dL_law_650 rfl ?_
  refine zr_aloadn (k := 3) (q := 652) rfl dL_law_651 rfl ?_
  refine zr_callSH (st := []) (as := [(1, 1), (0, (xs (i + 1).toNat).toInt), (1, 529)]) (n := 3) (q := 655) hW (fun k S9 M9 h => by
      obtain ⟨-, k2, h2, -⟩ := hJ _ _ _ h
      exact z_n8' h2) hyL_removeBallot hiL_removeBallot hpL_removeBallot hsL_removeBallot wkL_180 dL_law_652 rfl rfl ⟨Nat.le_of_ble_eq_true rfl, Nat.le_of_ble_eq_true rfl, rfl⟩ rfl (Nat.zero_le _) (show 2 ≤ bc + 3 by omega) (show 12 ≤ bs + 18 by omega) (fun r S1 M1 h8 hP => ?_)
  obtain ⟨rfl, k, rfl, P2, hm, h2⟩ := hJ _ _ _ hP
  refine zr_istore (i := 6) (q := 657) dL_law_655 rfl (show 6 < 9 by decide) rfl ?_
  refine zr_aloadn (k := 2) (q := 658) rfl dL_law_657 rfl ?_
  refine zr_aloadn (k := 0) (q := 659) rfl dL_law_658 rfl ?_
  refine zr_iload (n := 0) (i := 5) (q := 661) rfl dL_law_659 rfl ?_
  refine zr_iconst (q := 662) dL_law_661 rfl (z_in_of rfl) ?_
  refine zr_iadd (q := 663) dL_law_662 rfl (fun _ _ => ⟨by omega, by omega⟩) ?_
  refine zr_sald (q := 664) (fun _ _ h => h) (by omega) (by omega) dL_law_663 rfl ?_
  refine zf_callV1 k517 hm mtX12_removeBallot wiX12_removeBallot weX12_removeBallot wkL_182 (q := 667) dL_law_664 rfl rfl rfl rfl rfl rfl rfl (fun r S2 M2 h9 hP2 => ?_) (fun k3 S9 M9 hP2 => by
      obtain ⟨-, b, h9, -⟩ := h2 _ _ _ hP2
      exact (z_n8' h9).elim)
  obtain ⟨rfl, b, rfl, e1, e2, R2⟩ := h2 _ _ _ hP2
  refine zr_istore (i := 7) (q := 669) dL_law_667 rfl (show 7 < 9 by decide) rfl ?_
  exact tl_int (p := 669) dL_law_669 dL_law_670 dL_law_673 dL_law_675 dL_law_680 dL_law_682 dL_law_685 dL_law_686 dL_law_687 dL_law_688 dL_law_690 dL_law_691 dL_law_692 dL_law_697 (by decide) e1 (fun c => (e2 c).1) (zr_room (zr_fg3 (kk M2 R2)) (show bc ≤ bc + 3 - 2 - 0 - 0 by omega) (show bs ≤ bs + 18 - 12 - 0 - 0 by omega))
theorem l_recount (R9 : zRl M) (hi : 0 ≤ i ∧ i + 3 ≤ (L : Int)) (hL : L ≤ 1536) (kk : ∀ M', zRl M' → z_Ex (mL_law L xs) zF 2540 [(1, -98), (1, 1), (1, 517), (1, 529), (1, 530), (0, i), (9, 0), (9, 0), (9, 0)] [] M' bc bs Q) : z_Ex (mL_law L xs) zF 700 [(1, -98), (1, 1), (1, 517), (1, 529), (1, 530), (0, i), (9, 0), (9, 0), (9, 0)] [] M (bc + 3) (bs + 18) Q := by
  obtain ⟨P, hW, hJ⟩ := jj_recount (p0 := (xs (i + 1).toNat).toInt) (p1 := (xs (i + 2).toNat).toInt) R9
  refine zr_aloadn (k := 1) (q := 701) rfl dL_law_700 rfl ?_
  refine zr_aloadn (k := 0) (q := 702) rfl dL_law_701 rfl ?_
  refine zr_iload (n := 0) (i := 5) (q := 704) rfl dL_law_702 rfl ?_
  refine zr_iconst (q := 705) dL_law_704 rfl (z_in_of rfl) ?_
  refine zr_iadd (q := 706) dL_law_705 rfl (fun _ _ => ⟨by omega, by omega⟩) ?_
  refine zr_sald (q := 707) (fun _ _ h => h) (by omega) (by omega) dL_law_706 rfl ?_
  refine zr_aloadn (k := 0) (q := 708) rfl dL_law_707 rfl ?_
  refine zr_iload (n := 0) (i := 5) (q := 710) rfl dL_law_708 rfl ?_
  refine zr_iconst (q := 711) dL_law_710 rfl (z_in_of rfl) ?_
  refine zr_iadd (q := 712) dL_law_711 rfl (fun _ _ => ⟨by omega, by omega⟩) ?_
  refine zr_sald (q := 713) (fun _ _ h => h) (by omega) (by omega) dL_law_712 rfl ?_
  refine zr_aloadn (k := 3) (q := 714) rfl dL_law_713 rfl ?_
  refine zr_callSH (st := []) (as := [(1, 1), (0, (xs (i + 1).toNat).toInt), (0, (xs (i + 2).toNat).toInt), (1, 529)]) (n := 4) (q := 717) hW (fun k S9 M9 h => by
      obtain ⟨-, k2, h2, -⟩ := hJ _ _ _ h
      exact z_n8' h2) hyL_recount hiL_recount hpL_recount hsL_recount wkL_183 dL_law_714 rfl rfl ⟨Nat.le_of_ble_eq_true rfl, Nat.le_of_ble_eq_true rfl, rfl⟩ rfl (Nat.zero_le _) (show 2 ≤ bc + 3 by omega) (show 12 ≤ bs + 18 by omega) (fun r S1 M1 h8 hP => ?_)
  obtain ⟨rfl, k, rfl, P2, hm, h2⟩ := hJ _ _ _ hP
  refine zr_istore (i := 6) (q := 719) dL_law_717 rfl (show 6 < 9 by decide) rfl ?_
  refine zr_aloadn (k := 2) (q := 720) rfl dL_law_719 rfl ?_
  refine zr_aloadn (k := 0) (q := 721) rfl dL_law_720 rfl ?_
  refine zr_iload (n := 0) (i := 5) (q := 723) rfl dL_law_721 rfl ?_
  refine zr_iconst (q := 724) dL_law_723 rfl (z_in_of rfl) ?_
  refine zr_iadd (q := 725) dL_law_724 rfl (fun _ _ => ⟨by omega, by omega⟩) ?_
  refine zr_sald (q := 726) (fun _ _ h => h) (by omega) (by omega) dL_law_725 rfl ?_
  refine zr_aloadn (k := 0) (q := 727) rfl dL_law_726 rfl ?_
  refine zr_iload (n := 0) (i := 5) (q := 729) rfl dL_law_727 rfl ?_
  refine zr_iconst (q := 730) dL_law_729 rfl (z_in_of rfl) ?_
  refine zr_iadd (q := 731) dL_law_730 rfl (fun _ _ => ⟨by omega, by omega⟩) ?_
  refine zr_sald (q := 732) (fun _ _ h => h) (by omega) (by omega) dL_law_731 rfl ?_
  refine zf_callV2 k517 hm mtX12_recount wiX12_recount weX12_recount wkL_185 (q := 735) dL_law_732 rfl rfl rfl rfl rfl rfl rfl (fun r S2 M2 h9 hP2 => ?_) (fun k3 S9 M9 hP2 => by
      obtain ⟨-, b, h9, -⟩ := h2 _ _ _ hP2
      exact (z_n8' h9).elim)
  obtain ⟨rfl, b, rfl, e1, e2, R2⟩ := h2 _ _ _ hP2
  refine zr_istore (i := 7) (q := 737) dL_law_735 rfl (show 7 < 9 by decide) rfl ?_
  exact tl_int (p := 737) dL_law_737 dL_law_738 dL_law_741 dL_law_743 dL_law_748 dL_law_750 dL_law_753 dL_law_754 dL_law_755 dL_law_756 dL_law_758 dL_law_759 dL_law_760 dL_law_765 (by decide) e1 (fun c => (e2 c).1) (zr_room (zr_fg3 (kk M2 R2)) (show bc ≤ bc + 3 - 2 - 0 - 0 by omega) (show bs ≤ bs + 18 - 12 - 0 - 0 by omega))
theorem l_ballotCount (R9 : zRl M) (hi : 0 ≤ i ∧ i + 3 ≤ (L : Int)) (hL : L ≤ 1536) (kk : ∀ M', zRl M' → z_Ex (mL_law L xs) zF 2540 [(1, -98), (1, 1), (1, 517), (1, 529), (1, 530), (0, i), (9, 0), (9, 0), (9, 0)] [] M' bc bs Q) : z_Ex (mL_law L xs) zF 768 [(1, -98), (1, 1), (1, 517), (1, 529), (1, 530), (0, i), (9, 0), (9, 0), (9, 0)] [] M (bc + 3) (bs + 18) Q := by
  obtain ⟨P, hW, hJ⟩ := jj_ballotCount R9
  refine zr_aloadn (k := 1) (q := 769) rfl dL_law_768 rfl ?_
  refine zf_callV0 k1 hW mtX11_ballotCount wiX11_ballotCount weX11_ballotCount wkL_186 (q := 772) dL_law_769 rfl rfl rfl rfl rfl rfl (by simp only [Bool.and_eq_true]; exact ⟨Nat.ble_eq.mpr (show 0 ≤ bc + 3 by omega), Nat.ble_eq.mpr (show 0 ≤ bs + 18 by omega)⟩) (fun r S1 M1 h8 hP => ?_) (fun k3 S9 M9 hP => by
      obtain ⟨-, k2, h2, -⟩ := hJ _ _ _ hP
      exact (z_n8' h2).elim)
  obtain ⟨rfl, v, rfl, P2, hm, h2⟩ := hJ _ _ _ hP
  refine zr_aloadn (k := 2) (q := 773) rfl dL_law_772 rfl ?_
  refine zf_callV0 k517 hm mtX12_ballotCount wiX12_ballotCount weX12_ballotCount wkL_189 (q := 776) dL_law_773 rfl rfl rfl rfl rfl rfl rfl (fun r S2 M2 h9 hP2 => ?_) (fun k3 S9 M9 hP2 => by
      exact (z_n8' (h2 _ _ _ hP2).2.1).elim)
  obtain ⟨rfl, rfl, R2⟩ := h2 _ _ _ hP2
  exact zr_icmp_eq (q := 2540) (q2 := 779) dL_law_776 (by decide) rfl (fun _ => zr_room (kk M2 R2) (show bc ≤ bc + 3 - 0 - 0 by omega) (show bs ≤ bs + 18 - 0 - 0 by omega)) (fun c => absurd rfl c)
theorem l_weightOf (R9 : zRl M) (hi : 0 ≤ i ∧ i + 3 ≤ (L : Int)) (hL : L ≤ 1536) (kk : ∀ M', zRl M' → z_Ex (mL_law L xs) zF 2540 [(1, -98), (1, 1), (1, 517), (1, 529), (1, 530), (0, i), (9, 0), (9, 0), (9, 0)] [] M' bc bs Q) : z_Ex (mL_law L xs) zF 781 [(1, -98), (1, 1), (1, 517), (1, 529), (1, 530), (0, i), (9, 0), (9, 0), (9, 0)] [] M (bc + 3) (bs + 18) Q := by
  obtain ⟨P, hW, hJ⟩ := jj_weightOf (p0 := (xs (i + 1).toNat).toInt) R9
  refine zr_aloadn (k := 1) (q := 782) rfl dL_law_781 rfl ?_
  refine zr_aloadn (k := 0) (q := 783) rfl dL_law_782 rfl ?_
  refine zr_iload (n := 0) (i := 5) (q := 785) rfl dL_law_783 rfl ?_
  refine zr_iconst (q := 786) dL_law_785 rfl (z_in_of rfl) ?_
  refine zr_iadd (q := 787) dL_law_786 rfl (fun _ _ => ⟨by omega, by omega⟩) ?_
  refine zr_sald (q := 788) (fun _ _ h => h) (by omega) (by omega) dL_law_787 rfl ?_
  refine zr_aloadn (k := 3) (q := 789) rfl dL_law_788 rfl ?_
  refine zr_callSH (st := []) (as := [(1, 1), (0, (xs (i + 1).toNat).toInt), (1, 529)]) (n := 3) (q := 792) hW (fun k S9 M9 h => by
      obtain ⟨-, k2, h2, -⟩ := hJ _ _ _ h
      exact z_n8' h2) hyL_weightOf hiL_weightOf hpL_weightOf hsL_weightOf wkL_190 dL_law_789 rfl rfl ⟨Nat.le_of_ble_eq_true rfl, Nat.le_of_ble_eq_true rfl, rfl⟩ rfl (Nat.zero_le _) (show 1 ≤ bc + 3 by omega) (show 6 ≤ bs + 18 by omega) (fun r S1 M1 h8 hP => ?_)
  obtain ⟨rfl, k, rfl, P2, hm, h2⟩ := hJ _ _ _ hP
  refine zr_istore (i := 6) (q := 794) dL_law_792 rfl (show 6 < 9 by decide) rfl ?_
  refine zr_aloadn (k := 2) (q := 795) rfl dL_law_794 rfl ?_
  refine zr_aloadn (k := 0) (q := 796) rfl dL_law_795 rfl ?_
  refine zr_iload (n := 0) (i := 5) (q := 798) rfl dL_law_796 rfl ?_
  refine zr_iconst (q := 799) dL_law_798 rfl (z_in_of rfl) ?_
  refine zr_iadd (q := 800) dL_law_799 rfl (fun _ _ => ⟨by omega, by omega⟩) ?_
  refine zr_sald (q := 801) (fun _ _ h => h) (by omega) (by omega) dL_law_800 rfl ?_
  refine zf_callV1 k517 hm mtX12_weightOf wiX12_weightOf weX12_weightOf wkL_192 (q := 804) dL_law_801 rfl rfl rfl rfl rfl rfl rfl (fun r S2 M2 h9 hP2 => ?_) (fun k3 S9 M9 hP2 => by
      obtain ⟨-, b, h9, -⟩ := h2 _ _ _ hP2
      exact (z_n8' h9).elim)
  obtain ⟨rfl, b, rfl, e1, e2, R2⟩ := h2 _ _ _ hP2
  refine zr_istore (i := 7) (q := 806) dL_law_804 rfl (show 7 < 9 by decide) rfl ?_
  exact tl_int (p := 806) dL_law_806 dL_law_807 dL_law_810 dL_law_812 dL_law_817 dL_law_819 dL_law_822 dL_law_823 dL_law_824 dL_law_825 dL_law_827 dL_law_828 dL_law_829 dL_law_834 (by decide) e1 (fun c => (e2 c).1) (zr_room (zr_fg3 (kk M2 R2)) (show bc ≤ bc + 3 - 1 - 0 - 0 by omega) (show bs ≤ bs + 18 - 6 - 0 - 0 by omega))
theorem l_rankCount (R9 : zRl M) (hi : 0 ≤ i ∧ i + 3 ≤ (L : Int)) (hL : L ≤ 1536) (kk : ∀ M', zRl M' → z_Ex (mL_law L xs) zF 2540 [(1, -98), (1, 1), (1, 517), (1, 529), (1, 530), (0, i), (9, 0), (9, 0), (9, 0)] [] M' bc bs Q) : z_Ex (mL_law L xs) zF 837 [(1, -98), (1, 1), (1, 517), (1, 529), (1, 530), (0, i), (9, 0), (9, 0), (9, 0)] [] M (bc + 3) (bs + 18) Q := by
  obtain ⟨P, hW, hJ⟩ := jj_rankCount (p0 := (xs (i + 1).toNat).toInt) R9
  refine zr_aloadn (k := 1) (q := 838) rfl dL_law_837 rfl ?_
  refine zr_aloadn (k := 0) (q := 839) rfl dL_law_838 rfl ?_
  refine zr_iload (n := 0) (i := 5) (q := 841) rfl dL_law_839 rfl ?_
  refine zr_iconst (q := 842) dL_law_841 rfl (z_in_of rfl) ?_
  refine zr_iadd (q := 843) dL_law_842 rfl (fun _ _ => ⟨by omega, by omega⟩) ?_
  refine zr_sald (q := 844) (fun _ _ h => h) (by omega) (by omega) dL_law_843 rfl ?_
  refine zr_aloadn (k := 3) (q := 845) rfl dL_law_844 rfl ?_
  refine zr_callSH (st := []) (as := [(1, 1), (0, (xs (i + 1).toNat).toInt), (1, 529)]) (n := 3) (q := 848) hW (fun k S9 M9 h => by
      obtain ⟨-, k2, h2, -⟩ := hJ _ _ _ h
      exact z_n8' h2) hyL_rankCount hiL_rankCount hpL_rankCount hsL_rankCount wkL_193 dL_law_845 rfl rfl ⟨Nat.le_of_ble_eq_true rfl, Nat.le_of_ble_eq_true rfl, rfl⟩ rfl (Nat.zero_le _) (show 1 ≤ bc + 3 by omega) (show 6 ≤ bs + 18 by omega) (fun r S1 M1 h8 hP => ?_)
  obtain ⟨rfl, k, rfl, P2, hm, h2⟩ := hJ _ _ _ hP
  refine zr_istore (i := 6) (q := 850) dL_law_848 rfl (show 6 < 9 by decide) rfl ?_
  refine zr_aloadn (k := 2) (q := 851) rfl dL_law_850 rfl ?_
  refine zr_aloadn (k := 0) (q := 852) rfl dL_law_851 rfl ?_
  refine zr_iload (n := 0) (i := 5) (q := 854) rfl dL_law_852 rfl ?_
  refine zr_iconst (q := 855) dL_law_854 rfl (z_in_of rfl) ?_
  refine zr_iadd (q := 856) dL_law_855 rfl (fun _ _ => ⟨by omega, by omega⟩) ?_
  refine zr_sald (q := 857) (fun _ _ h => h) (by omega) (by omega) dL_law_856 rfl ?_
  refine zf_callV1 k517 hm mtX12_rankCount wiX12_rankCount weX12_rankCount wkL_195 (q := 860) dL_law_857 rfl rfl rfl rfl rfl rfl rfl (fun r S2 M2 h9 hP2 => ?_) (fun k3 S9 M9 hP2 => by
      obtain ⟨-, b, h9, -⟩ := h2 _ _ _ hP2
      exact (z_n8' h9).elim)
  obtain ⟨rfl, b, rfl, e1, e2, R2⟩ := h2 _ _ _ hP2
  refine zr_istore (i := 7) (q := 862) dL_law_860 rfl (show 7 < 9 by decide) rfl ?_
  exact tl_int (p := 862) dL_law_862 dL_law_863 dL_law_866 dL_law_868 dL_law_873 dL_law_875 dL_law_878 dL_law_879 dL_law_880 dL_law_881 dL_law_883 dL_law_884 dL_law_885 dL_law_890 (by decide) e1 (fun c => (e2 c).1) (zr_room (zr_fg3 (kk M2 R2)) (show bc ≤ bc + 3 - 1 - 0 - 0 by omega) (show bs ≤ bs + 18 - 6 - 0 - 0 by omega))
theorem l_windAt (R9 : zRl M) (hi : 0 ≤ i ∧ i + 3 ≤ (L : Int)) (hL : L ≤ 1536) (kk : ∀ M', zRl M' → z_Ex (mL_law L xs) zF 2540 [(1, -98), (1, 1), (1, 517), (1, 529), (1, 530), (0, i), (9, 0), (9, 0), (9, 0)] [] M' bc bs Q) : z_Ex (mL_law L xs) zF 893 [(1, -98), (1, 1), (1, 517), (1, 529), (1, 530), (0, i), (9, 0), (9, 0), (9, 0)] [] M (bc + 3) (bs + 18) Q := by
  obtain ⟨P, hW, hJ⟩ := jj_windAt (p0 := (xs (i + 1).toNat).toInt) (p1 := (xs (i + 2).toNat).toInt) R9
  refine zr_aloadn (k := 1) (q := 894) rfl dL_law_893 rfl ?_
  refine zr_aloadn (k := 0) (q := 895) rfl dL_law_894 rfl ?_
  refine zr_iload (n := 0) (i := 5) (q := 897) rfl dL_law_895 rfl ?_
  refine zr_iconst (q := 898) dL_law_897 rfl (z_in_of rfl) ?_
  refine zr_iadd (q := 899) dL_law_898 rfl (fun _ _ => ⟨by omega, by omega⟩) ?_
  refine zr_sald (q := 900) (fun _ _ h => h) (by omega) (by omega) dL_law_899 rfl ?_
  refine zr_aloadn (k := 0) (q := 901) rfl dL_law_900 rfl ?_
  refine zr_iload (n := 0) (i := 5) (q := 903) rfl dL_law_901 rfl ?_
  refine zr_iconst (q := 904) dL_law_903 rfl (z_in_of rfl) ?_
  refine zr_iadd (q := 905) dL_law_904 rfl (fun _ _ => ⟨by omega, by omega⟩) ?_
  refine zr_sald (q := 906) (fun _ _ h => h) (by omega) (by omega) dL_law_905 rfl ?_
  refine zr_aloadn (k := 3) (q := 907) rfl dL_law_906 rfl ?_
  refine zr_callSH (st := []) (as := [(1, 1), (0, (xs (i + 1).toNat).toInt), (0, (xs (i + 2).toNat).toInt), (1, 529)]) (n := 4) (q := 910) hW (fun k S9 M9 h => by
      obtain ⟨-, k2, h2, -⟩ := hJ _ _ _ h
      exact z_n8' h2) hyL_windAt hiL_windAt hpL_windAt hsL_windAt wkL_196 dL_law_907 rfl rfl ⟨Nat.le_of_ble_eq_true rfl, Nat.le_of_ble_eq_true rfl, rfl⟩ rfl (Nat.zero_le _) (show 2 ≤ bc + 3 by omega) (show 12 ≤ bs + 18 by omega) (fun r S1 M1 h8 hP => ?_)
  obtain ⟨rfl, k, rfl, P2, hm, h2⟩ := hJ _ _ _ hP
  refine zr_istore (i := 6) (q := 912) dL_law_910 rfl (show 6 < 9 by decide) rfl ?_
  refine zr_aloadn (k := 2) (q := 913) rfl dL_law_912 rfl ?_
  refine zr_aloadn (k := 0) (q := 914) rfl dL_law_913 rfl ?_
  refine zr_iload (n := 0) (i := 5) (q := 916) rfl dL_law_914 rfl ?_
  refine zr_iconst (q := 917) dL_law_916 rfl (z_in_of rfl) ?_
  refine zr_iadd (q := 918) dL_law_917 rfl (fun _ _ => ⟨by omega, by omega⟩) ?_
  refine zr_sald (q := 919) (fun _ _ h => h) (by omega) (by omega) dL_law_918 rfl ?_
  refine zr_aloadn (k := 0) (q := 920) rfl dL_law_919 rfl ?_
  refine zr_iload (n := 0) (i := 5) (q := 922) rfl dL_law_920 rfl ?_
  refine zr_iconst (q := 923) dL_law_922 rfl (z_in_of rfl) ?_
  refine zr_iadd (q := 924) dL_law_923 rfl (fun _ _ => ⟨by omega, by omega⟩) ?_
  refine zr_sald (q := 925) (fun _ _ h => h) (by omega) (by omega) dL_law_924 rfl ?_
  refine zf_callV2 k517 hm mtX12_windAt wiX12_windAt weX12_windAt wkL_198 (q := 928) dL_law_925 rfl rfl rfl rfl rfl rfl rfl (fun r S2 M2 h9 hP2 => ?_) (fun k3 S9 M9 hP2 => by
      obtain ⟨-, b, h9, -⟩ := h2 _ _ _ hP2
      exact (z_n8' h9).elim)
  obtain ⟨rfl, b, rfl, e1, e2, R2⟩ := h2 _ _ _ hP2
  refine zr_istore (i := 7) (q := 930) dL_law_928 rfl (show 7 < 9 by decide) rfl ?_
  exact tl_int (p := 930) dL_law_930 dL_law_931 dL_law_934 dL_law_936 dL_law_941 dL_law_943 dL_law_946 dL_law_947 dL_law_948 dL_law_949 dL_law_951 dL_law_952 dL_law_953 dL_law_958 (by decide) e1 (fun c => (e2 c).1) (zr_room (zr_fg3 (kk M2 R2)) (show bc ≤ bc + 3 - 2 - 0 - 0 by omega) (show bs ≤ bs + 18 - 12 - 0 - 0 by omega))
theorem l_rankOf (R9 : zRl M) (hi : 0 ≤ i ∧ i + 3 ≤ (L : Int)) (hL : L ≤ 1536) (kk : ∀ M', zRl M' → z_Ex (mL_law L xs) zF 2540 [(1, -98), (1, 1), (1, 517), (1, 529), (1, 530), (0, i), (9, 0), (9, 0), (9, 0)] [] M' bc bs Q) : z_Ex (mL_law L xs) zF 961 [(1, -98), (1, 1), (1, 517), (1, 529), (1, 530), (0, i), (9, 0), (9, 0), (9, 0)] [] M (bc + 3) (bs + 18) Q := by
  obtain ⟨P, hW, hJ⟩ := jj_rankOf (p0 := (xs (i + 1).toNat).toInt) (p1 := (xs (i + 2).toNat).toInt) R9
  refine zr_aloadn (k := 1) (q := 962) rfl dL_law_961 rfl ?_
  refine zr_aloadn (k := 0) (q := 963) rfl dL_law_962 rfl ?_
  refine zr_iload (n := 0) (i := 5) (q := 965) rfl dL_law_963 rfl ?_
  refine zr_iconst (q := 966) dL_law_965 rfl (z_in_of rfl) ?_
  refine zr_iadd (q := 967) dL_law_966 rfl (fun _ _ => ⟨by omega, by omega⟩) ?_
  refine zr_sald (q := 968) (fun _ _ h => h) (by omega) (by omega) dL_law_967 rfl ?_
  refine zr_aloadn (k := 0) (q := 969) rfl dL_law_968 rfl ?_
  refine zr_iload (n := 0) (i := 5) (q := 971) rfl dL_law_969 rfl ?_
  refine zr_iconst (q := 972) dL_law_971 rfl (z_in_of rfl) ?_
  refine zr_iadd (q := 973) dL_law_972 rfl (fun _ _ => ⟨by omega, by omega⟩) ?_
  refine zr_sald (q := 974) (fun _ _ h => h) (by omega) (by omega) dL_law_973 rfl ?_
  refine zr_aloadn (k := 3) (q := 975) rfl dL_law_974 rfl ?_
  refine zr_callSH (st := []) (as := [(1, 1), (0, (xs (i + 1).toNat).toInt), (0, (xs (i + 2).toNat).toInt), (1, 529)]) (n := 4) (q := 978) hW (fun k S9 M9 h => by
      obtain ⟨-, k2, h2, -⟩ := hJ _ _ _ h
      exact z_n8' h2) hyL_rankOf hiL_rankOf hpL_rankOf hsL_rankOf wkL_199 dL_law_975 rfl rfl ⟨Nat.le_of_ble_eq_true rfl, Nat.le_of_ble_eq_true rfl, rfl⟩ rfl (Nat.zero_le _) (show 3 ≤ bc + 3 by omega) (show 18 ≤ bs + 18 by omega) (fun r S1 M1 h8 hP => ?_)
  obtain ⟨rfl, k, rfl, P2, hm, h2⟩ := hJ _ _ _ hP
  refine zr_istore (i := 6) (q := 980) dL_law_978 rfl (show 6 < 9 by decide) rfl ?_
  refine zr_aloadn (k := 2) (q := 981) rfl dL_law_980 rfl ?_
  refine zr_aloadn (k := 0) (q := 982) rfl dL_law_981 rfl ?_
  refine zr_iload (n := 0) (i := 5) (q := 984) rfl dL_law_982 rfl ?_
  refine zr_iconst (q := 985) dL_law_984 rfl (z_in_of rfl) ?_
  refine zr_iadd (q := 986) dL_law_985 rfl (fun _ _ => ⟨by omega, by omega⟩) ?_
  refine zr_sald (q := 987) (fun _ _ h => h) (by omega) (by omega) dL_law_986 rfl ?_
  refine zr_aloadn (k := 0) (q := 988) rfl dL_law_987 rfl ?_
  refine zr_iload (n := 0) (i := 5) (q := 990) rfl dL_law_988 rfl ?_
  refine zr_iconst (q := 991) dL_law_990 rfl (z_in_of rfl) ?_
  refine zr_iadd (q := 992) dL_law_991 rfl (fun _ _ => ⟨by omega, by omega⟩) ?_
  refine zr_sald (q := 993) (fun _ _ h => h) (by omega) (by omega) dL_law_992 rfl ?_
  refine zf_callV2 k517 hm mtX12_rankOf wiX12_rankOf weX12_rankOf wkL_201 (q := 996) dL_law_993 rfl rfl rfl rfl rfl rfl rfl (fun r S2 M2 h9 hP2 => ?_) (fun k3 S9 M9 hP2 => by
      obtain ⟨-, b, h9, -⟩ := h2 _ _ _ hP2
      exact (z_n8' h9).elim)
  obtain ⟨rfl, b, rfl, e1, e2, R2⟩ := h2 _ _ _ hP2
  refine zr_istore (i := 7) (q := 998) dL_law_996 rfl (show 7 < 9 by decide) rfl ?_
  exact tl_int (p := 998) dL_law_998 dL_law_999 dL_law_1002 dL_law_1004 dL_law_1009 dL_law_1011 dL_law_1014 dL_law_1015 dL_law_1016 dL_law_1017 dL_law_1019 dL_law_1020 dL_law_1021 dL_law_1026 (by decide) e1 (fun c => (e2 c).1) (zr_room (zr_fg3 (kk M2 R2)) (show bc ≤ bc + 3 - 3 - 0 - 0 by omega) (show bs ≤ bs + 18 - 18 - 0 - 0 by omega))
theorem l_totalWeight (R9 : zRl M) (hi : 0 ≤ i ∧ i + 3 ≤ (L : Int)) (hL : L ≤ 1536) (kk : ∀ M', zRl M' → z_Ex (mL_law L xs) zF 2540 [(1, -98), (1, 1), (1, 517), (1, 529), (1, 530), (0, i), (9, 0), (9, 0), (9, 0)] [] M' bc bs Q) : z_Ex (mL_law L xs) zF 1029 [(1, -98), (1, 1), (1, 517), (1, 529), (1, 530), (0, i), (9, 0), (9, 0), (9, 0)] [] M (bc + 3) (bs + 18) Q := by
  obtain ⟨P, hW, hJ⟩ := jj_totalWeight R9
  refine zr_aloadn (k := 1) (q := 1030) rfl dL_law_1029 rfl ?_
  refine zf_callV0 k1 hW mtX11_totalWeight wiX11_totalWeight weX11_totalWeight wkL_202 (q := 1033) dL_law_1030 rfl rfl rfl rfl rfl rfl (by simp only [Bool.and_eq_true]; exact ⟨Nat.ble_eq.mpr (show 0 ≤ bc + 3 by omega), Nat.ble_eq.mpr (show 0 ≤ bs + 18 by omega)⟩) (fun r S1 M1 h8 hP => ?_) (fun k3 S9 M9 hP => by
      obtain ⟨-, k2, h2, -⟩ := hJ _ _ _ hP
      exact (z_n8' h2).elim)
  obtain ⟨rfl, v, rfl, P2, hm, h2⟩ := hJ _ _ _ hP
  refine zr_aloadn (k := 2) (q := 1034) rfl dL_law_1033 rfl ?_
  refine zf_callV0 k517 hm mtX12_totalWeight wiX12_totalWeight weX12_totalWeight wkL_205 (q := 1037) dL_law_1034 rfl rfl rfl rfl rfl rfl rfl (fun r S2 M2 h9 hP2 => ?_) (fun k3 S9 M9 hP2 => by
      exact (z_n8' (h2 _ _ _ hP2).2.1).elim)
  obtain ⟨rfl, rfl, R2⟩ := h2 _ _ _ hP2
  exact zr_icmp_eq (q := 2540) (q2 := 1040) dL_law_1037 (by decide) rfl (fun _ => zr_room (kk M2 R2) (show bc ≤ bc + 3 - 0 - 0 by omega) (show bs ≤ bs + 18 - 0 - 0 by omega)) (fun c => absurd rfl c)
theorem l_winner (R9 : zRl M) (hi : 0 ≤ i ∧ i + 3 ≤ (L : Int)) (hL : L ≤ 1536) (kk : ∀ M', zRl M' → z_Ex (mL_law L xs) zF 2540 [(1, -98), (1, 1), (1, 517), (1, 529), (1, 530), (0, i), (9, 0), (9, 0), (9, 0)] [] M' bc bs Q) : z_Ex (mL_law L xs) zF 1042 [(1, -98), (1, 1), (1, 517), (1, 529), (1, 530), (0, i), (9, 0), (9, 0), (9, 0)] [] M (bc + 3) (bs + 18) Q := by
  obtain ⟨P, hW, hJ⟩ := jj_winner R9
  refine zr_aloadn (k := 1) (q := 1043) rfl dL_law_1042 rfl ?_
  refine zr_aloadn (k := 3) (q := 1044) rfl dL_law_1043 rfl ?_
  refine zr_callSH (st := []) (as := [(1, 1), (1, 529)]) (n := 2) (q := 1047) hW (fun k S9 M9 h => by
      obtain ⟨-, k2, h2, -⟩ := hJ _ _ _ h
      exact z_n8' h2) hyL_winner hiL_winner hpL_winner hsL_winner wkL_206 dL_law_1044 rfl rfl ⟨Nat.le_of_ble_eq_true rfl, Nat.le_of_ble_eq_true rfl, rfl⟩ rfl (Nat.zero_le _) (show 1 ≤ bc + 3 by omega) (show 6 ≤ bs + 18 by omega) (fun r S1 M1 h8 hP => ?_)
  obtain ⟨rfl, k, rfl, P2, hm, h2⟩ := hJ _ _ _ hP
  refine zr_istore (i := 6) (q := 1049) dL_law_1047 rfl (show 6 < 9 by decide) rfl ?_
  refine zr_aloadn (k := 2) (q := 1050) rfl dL_law_1049 rfl ?_
  refine zf_callV0 k517 hm mtX12_winner wiX12_winner weX12_winner wkL_208 (q := 1053) dL_law_1050 rfl rfl rfl rfl rfl rfl rfl (fun r S2 M2 h9 hP2 => ?_) (fun k3 S9 M9 hP2 => by
      obtain ⟨-, b, h9, -⟩ := h2 _ _ _ hP2
      exact (z_n8' h9).elim)
  obtain ⟨rfl, b, rfl, e1, e2, R2⟩ := h2 _ _ _ hP2
  refine zr_istore (i := 7) (q := 1055) dL_law_1053 rfl (show 7 < 9 by decide) rfl ?_
  exact tl_int (p := 1055) dL_law_1055 dL_law_1056 dL_law_1059 dL_law_1061 dL_law_1066 dL_law_1068 dL_law_1071 dL_law_1072 dL_law_1073 dL_law_1074 dL_law_1076 dL_law_1077 dL_law_1078 dL_law_1083 (by decide) e1 (fun c => (e2 c).1) (zr_room (zr_fg3 (kk M2 R2)) (show bc ≤ bc + 3 - 1 - 0 - 0 by omega) (show bs ≤ bs + 18 - 6 - 0 - 0 by omega))
theorem l_winnerByTransfers (R9 : zRl M) (hi : 0 ≤ i ∧ i + 3 ≤ (L : Int)) (hL : L ≤ 1536) (kk : ∀ M', zRl M' → z_Ex (mL_law L xs) zF 2540 [(1, -98), (1, 1), (1, 517), (1, 529), (1, 530), (0, i), (9, 0), (9, 0), (9, 0)] [] M' bc bs Q) : z_Ex (mL_law L xs) zF 1086 [(1, -98), (1, 1), (1, 517), (1, 529), (1, 530), (0, i), (9, 0), (9, 0), (9, 0)] [] M (bc + 3) (bs + 18) Q := by
  obtain ⟨P, hW, hJ⟩ := jj_winnerByTransfers R9
  refine zr_aloadn (k := 1) (q := 1087) rfl dL_law_1086 rfl ?_
  refine zr_aloadn (k := 3) (q := 1088) rfl dL_law_1087 rfl ?_
  refine zr_callSH (st := []) (as := [(1, 1), (1, 529)]) (n := 2) (q := 1091) hW (fun k S9 M9 h => by
      obtain ⟨-, k2, h2, -⟩ := hJ _ _ _ h
      exact z_n8' h2) hyL_winnerByTransfers hiL_winnerByTransfers hpL_winnerByTransfers hsL_winnerByTransfers wkL_209 dL_law_1088 rfl rfl ⟨Nat.le_of_ble_eq_true rfl, Nat.le_of_ble_eq_true rfl, rfl⟩ rfl (Nat.zero_le _) (show 1 ≤ bc + 3 by omega) (show 6 ≤ bs + 18 by omega) (fun r S1 M1 h8 hP => ?_)
  obtain ⟨rfl, k, rfl, P2, hm, h2⟩ := hJ _ _ _ hP
  refine zr_istore (i := 6) (q := 1093) dL_law_1091 rfl (show 6 < 9 by decide) rfl ?_
  refine zr_aloadn (k := 2) (q := 1094) rfl dL_law_1093 rfl ?_
  refine zf_callV0 k517 hm mtX12_winnerByTransfers wiX12_winnerByTransfers weX12_winnerByTransfers wkL_211 (q := 1097) dL_law_1094 rfl rfl rfl rfl rfl rfl rfl (fun r S2 M2 h9 hP2 => ?_) (fun k3 S9 M9 hP2 => by
      obtain ⟨-, b, h9, -⟩ := h2 _ _ _ hP2
      exact (z_n8' h9).elim)
  obtain ⟨rfl, b, rfl, e1, e2, R2⟩ := h2 _ _ _ hP2
  refine zr_istore (i := 7) (q := 1099) dL_law_1097 rfl (show 7 < 9 by decide) rfl ?_
  exact tl_int (p := 1099) dL_law_1099 dL_law_1100 dL_law_1103 dL_law_1105 dL_law_1110 dL_law_1112 dL_law_1115 dL_law_1116 dL_law_1117 dL_law_1118 dL_law_1120 dL_law_1121 dL_law_1122 dL_law_1127 (by decide) e1 (fun c => (e2 c).1) (zr_room (zr_fg3 (kk M2 R2)) (show bc ≤ bc + 3 - 1 - 0 - 0 by omega) (show bs ≤ bs + 18 - 6 - 0 - 0 by omega))
theorem l_roundCount (R9 : zRl M) (hi : 0 ≤ i ∧ i + 3 ≤ (L : Int)) (hL : L ≤ 1536) (kk : ∀ M', zRl M' → z_Ex (mL_law L xs) zF 2540 [(1, -98), (1, 1), (1, 517), (1, 529), (1, 530), (0, i), (9, 0), (9, 0), (9, 0)] [] M' bc bs Q) : z_Ex (mL_law L xs) zF 1130 [(1, -98), (1, 1), (1, 517), (1, 529), (1, 530), (0, i), (9, 0), (9, 0), (9, 0)] [] M (bc + 3) (bs + 18) Q := by
  obtain ⟨P, hW, hJ⟩ := jj_roundCount R9
  refine zr_aloadn (k := 1) (q := 1131) rfl dL_law_1130 rfl ?_
  refine zf_callV0 k1 hW mtX11_roundCount wiX11_roundCount weX11_roundCount wkL_212 (q := 1134) dL_law_1131 rfl rfl rfl rfl rfl rfl (by simp only [Bool.and_eq_true]; exact ⟨Nat.ble_eq.mpr (show 0 ≤ bc + 3 by omega), Nat.ble_eq.mpr (show 0 ≤ bs + 18 by omega)⟩) (fun r S1 M1 h8 hP => ?_) (fun k3 S9 M9 hP => by
      obtain ⟨-, k2, h2, -⟩ := hJ _ _ _ hP
      exact (z_n8' h2).elim)
  obtain ⟨rfl, v, rfl, P2, hm, h2⟩ := hJ _ _ _ hP
  refine zr_aloadn (k := 2) (q := 1135) rfl dL_law_1134 rfl ?_
  refine zf_callV0 k517 hm mtX12_roundCount wiX12_roundCount weX12_roundCount wkL_215 (q := 1138) dL_law_1135 rfl rfl rfl rfl rfl rfl rfl (fun r S2 M2 h9 hP2 => ?_) (fun k3 S9 M9 hP2 => by
      exact (z_n8' (h2 _ _ _ hP2).2.1).elim)
  obtain ⟨rfl, rfl, R2⟩ := h2 _ _ _ hP2
  exact zr_icmp_eq (q := 2540) (q2 := 1141) dL_law_1138 (by decide) rfl (fun _ => zr_room (kk M2 R2) (show bc ≤ bc + 3 - 0 - 0 by omega) (show bs ≤ bs + 18 - 0 - 0 by omega)) (fun c => absurd rfl c)
theorem l_votesIn (R9 : zRl M) (hi : 0 ≤ i ∧ i + 3 ≤ (L : Int)) (hL : L ≤ 1536) (kk : ∀ M', zRl M' → z_Ex (mL_law L xs) zF 2540 [(1, -98), (1, 1), (1, 517), (1, 529), (1, 530), (0, i), (9, 0), (9, 0), (9, 0)] [] M' bc bs Q) : z_Ex (mL_law L xs) zF 1143 [(1, -98), (1, 1), (1, 517), (1, 529), (1, 530), (0, i), (9, 0), (9, 0), (9, 0)] [] M (bc + 3) (bs + 18) Q := by
  obtain ⟨P, hW, hJ⟩ := jj_votesIn (p0 := (xs (i + 1).toNat).toInt) (p1 := (xs (i + 2).toNat).toInt) R9
  refine zr_aloadn (k := 1) (q := 1144) rfl dL_law_1143 rfl ?_
  refine zr_aloadn (k := 0) (q := 1145) rfl dL_law_1144 rfl ?_
  refine zr_iload (n := 0) (i := 5) (q := 1147) rfl dL_law_1145 rfl ?_
  refine zr_iconst (q := 1148) dL_law_1147 rfl (z_in_of rfl) ?_
  refine zr_iadd (q := 1149) dL_law_1148 rfl (fun _ _ => ⟨by omega, by omega⟩) ?_
  refine zr_sald (q := 1150) (fun _ _ h => h) (by omega) (by omega) dL_law_1149 rfl ?_
  refine zr_aloadn (k := 0) (q := 1151) rfl dL_law_1150 rfl ?_
  refine zr_iload (n := 0) (i := 5) (q := 1153) rfl dL_law_1151 rfl ?_
  refine zr_iconst (q := 1154) dL_law_1153 rfl (z_in_of rfl) ?_
  refine zr_iadd (q := 1155) dL_law_1154 rfl (fun _ _ => ⟨by omega, by omega⟩) ?_
  refine zr_sald (q := 1156) (fun _ _ h => h) (by omega) (by omega) dL_law_1155 rfl ?_
  refine zr_aloadn (k := 3) (q := 1157) rfl dL_law_1156 rfl ?_
  refine zr_callSH (st := []) (as := [(1, 1), (0, (xs (i + 1).toNat).toInt), (0, (xs (i + 2).toNat).toInt), (1, 529)]) (n := 4) (q := 1160) hW (fun k S9 M9 h => by
      obtain ⟨-, k2, h2, -⟩ := hJ _ _ _ h
      exact z_n8' h2) hyL_votesIn hiL_votesIn hpL_votesIn hsL_votesIn wkL_216 dL_law_1157 rfl rfl ⟨Nat.le_of_ble_eq_true rfl, Nat.le_of_ble_eq_true rfl, rfl⟩ rfl (Nat.zero_le _) (show 3 ≤ bc + 3 by omega) (show 18 ≤ bs + 18 by omega) (fun r S1 M1 h8 hP => ?_)
  obtain ⟨rfl, k, rfl, P2, hm, h2⟩ := hJ _ _ _ hP
  refine zr_istore (i := 6) (q := 1162) dL_law_1160 rfl (show 6 < 9 by decide) rfl ?_
  refine zr_aloadn (k := 2) (q := 1163) rfl dL_law_1162 rfl ?_
  refine zr_aloadn (k := 0) (q := 1164) rfl dL_law_1163 rfl ?_
  refine zr_iload (n := 0) (i := 5) (q := 1166) rfl dL_law_1164 rfl ?_
  refine zr_iconst (q := 1167) dL_law_1166 rfl (z_in_of rfl) ?_
  refine zr_iadd (q := 1168) dL_law_1167 rfl (fun _ _ => ⟨by omega, by omega⟩) ?_
  refine zr_sald (q := 1169) (fun _ _ h => h) (by omega) (by omega) dL_law_1168 rfl ?_
  refine zr_aloadn (k := 0) (q := 1170) rfl dL_law_1169 rfl ?_
  refine zr_iload (n := 0) (i := 5) (q := 1172) rfl dL_law_1170 rfl ?_
  refine zr_iconst (q := 1173) dL_law_1172 rfl (z_in_of rfl) ?_
  refine zr_iadd (q := 1174) dL_law_1173 rfl (fun _ _ => ⟨by omega, by omega⟩) ?_
  refine zr_sald (q := 1175) (fun _ _ h => h) (by omega) (by omega) dL_law_1174 rfl ?_
  refine zf_callV2 k517 hm mtX12_votesIn wiX12_votesIn weX12_votesIn wkL_218 (q := 1178) dL_law_1175 rfl rfl rfl rfl rfl rfl rfl (fun r S2 M2 h9 hP2 => ?_) (fun k3 S9 M9 hP2 => by
      obtain ⟨-, b, h9, -⟩ := h2 _ _ _ hP2
      exact (z_n8' h9).elim)
  obtain ⟨rfl, b, rfl, e1, e2, R2⟩ := h2 _ _ _ hP2
  refine zr_istore (i := 7) (q := 1180) dL_law_1178 rfl (show 7 < 9 by decide) rfl ?_
  exact tl_int (p := 1180) dL_law_1180 dL_law_1181 dL_law_1184 dL_law_1186 dL_law_1191 dL_law_1193 dL_law_1196 dL_law_1197 dL_law_1198 dL_law_1199 dL_law_1201 dL_law_1202 dL_law_1203 dL_law_1208 (by decide) e1 (fun c => (e2 c).1) (zr_room (zr_fg3 (kk M2 R2)) (show bc ≤ bc + 3 - 3 - 0 - 0 by omega) (show bs ≤ bs + 18 - 18 - 0 - 0 by omega))
theorem l_exhaustedIn (R9 : zRl M) (hi : 0 ≤ i ∧ i + 3 ≤ (L : Int)) (hL : L ≤ 1536) (kk : ∀ M', zRl M' → z_Ex (mL_law L xs) zF 2540 [(1, -98), (1, 1), (1, 517), (1, 529), (1, 530), (0, i), (9, 0), (9, 0), (9, 0)] [] M' bc bs Q) : z_Ex (mL_law L xs) zF 1211 [(1, -98), (1, 1), (1, 517), (1, 529), (1, 530), (0, i), (9, 0), (9, 0), (9, 0)] [] M (bc + 3) (bs + 18) Q := by
  obtain ⟨P, hW, hJ⟩ := jj_exhaustedIn (p0 := (xs (i + 1).toNat).toInt) R9
  refine zr_aloadn (k := 1) (q := 1212) rfl dL_law_1211 rfl ?_
  refine zr_aloadn (k := 0) (q := 1213) rfl dL_law_1212 rfl ?_
  refine zr_iload (n := 0) (i := 5) (q := 1215) rfl dL_law_1213 rfl ?_
  refine zr_iconst (q := 1216) dL_law_1215 rfl (z_in_of rfl) ?_
  refine zr_iadd (q := 1217) dL_law_1216 rfl (fun _ _ => ⟨by omega, by omega⟩) ?_
  refine zr_sald (q := 1218) (fun _ _ h => h) (by omega) (by omega) dL_law_1217 rfl ?_
  refine zr_aloadn (k := 3) (q := 1219) rfl dL_law_1218 rfl ?_
  refine zr_callSH (st := []) (as := [(1, 1), (0, (xs (i + 1).toNat).toInt), (1, 529)]) (n := 3) (q := 1222) hW (fun k S9 M9 h => by
      obtain ⟨-, k2, h2, -⟩ := hJ _ _ _ h
      exact z_n8' h2) hyL_exhaustedIn hiL_exhaustedIn hpL_exhaustedIn hsL_exhaustedIn wkL_219 dL_law_1219 rfl rfl ⟨Nat.le_of_ble_eq_true rfl, Nat.le_of_ble_eq_true rfl, rfl⟩ rfl (Nat.zero_le _) (show 1 ≤ bc + 3 by omega) (show 6 ≤ bs + 18 by omega) (fun r S1 M1 h8 hP => ?_)
  obtain ⟨rfl, k, rfl, P2, hm, h2⟩ := hJ _ _ _ hP
  refine zr_istore (i := 6) (q := 1224) dL_law_1222 rfl (show 6 < 9 by decide) rfl ?_
  refine zr_aloadn (k := 2) (q := 1225) rfl dL_law_1224 rfl ?_
  refine zr_aloadn (k := 0) (q := 1226) rfl dL_law_1225 rfl ?_
  refine zr_iload (n := 0) (i := 5) (q := 1228) rfl dL_law_1226 rfl ?_
  refine zr_iconst (q := 1229) dL_law_1228 rfl (z_in_of rfl) ?_
  refine zr_iadd (q := 1230) dL_law_1229 rfl (fun _ _ => ⟨by omega, by omega⟩) ?_
  refine zr_sald (q := 1231) (fun _ _ h => h) (by omega) (by omega) dL_law_1230 rfl ?_
  refine zf_callV1 k517 hm mtX12_exhaustedIn wiX12_exhaustedIn weX12_exhaustedIn wkL_221 (q := 1234) dL_law_1231 rfl rfl rfl rfl rfl rfl rfl (fun r S2 M2 h9 hP2 => ?_) (fun k3 S9 M9 hP2 => by
      obtain ⟨-, b, h9, -⟩ := h2 _ _ _ hP2
      exact (z_n8' h9).elim)
  obtain ⟨rfl, b, rfl, e1, e2, R2⟩ := h2 _ _ _ hP2
  refine zr_istore (i := 7) (q := 1236) dL_law_1234 rfl (show 7 < 9 by decide) rfl ?_
  exact tl_int (p := 1236) dL_law_1236 dL_law_1237 dL_law_1240 dL_law_1242 dL_law_1247 dL_law_1249 dL_law_1252 dL_law_1253 dL_law_1254 dL_law_1255 dL_law_1257 dL_law_1258 dL_law_1259 dL_law_1264 (by decide) e1 (fun c => (e2 c).1) (zr_room (zr_fg3 (kk M2 R2)) (show bc ≤ bc + 3 - 1 - 0 - 0 by omega) (show bs ≤ bs + 18 - 6 - 0 - 0 by omega))
theorem l_eliminatedIn (R9 : zRl M) (hi : 0 ≤ i ∧ i + 3 ≤ (L : Int)) (hL : L ≤ 1536) (kk : ∀ M', zRl M' → z_Ex (mL_law L xs) zF 2540 [(1, -98), (1, 1), (1, 517), (1, 529), (1, 530), (0, i), (9, 0), (9, 0), (9, 0)] [] M' bc bs Q) : z_Ex (mL_law L xs) zF 1267 [(1, -98), (1, 1), (1, 517), (1, 529), (1, 530), (0, i), (9, 0), (9, 0), (9, 0)] [] M (bc + 3) (bs + 18) Q := by
  obtain ⟨P, hW, hJ⟩ := jj_eliminatedIn (p0 := (xs (i + 1).toNat).toInt) R9
  refine zr_aloadn (k := 1) (q := 1268) rfl dL_law_1267 rfl ?_
  refine zr_aloadn (k := 0) (q := 1269) rfl dL_law_1268 rfl ?_
  refine zr_iload (n := 0) (i := 5) (q := 1271) rfl dL_law_1269 rfl ?_
  refine zr_iconst (q := 1272) dL_law_1271 rfl (z_in_of rfl) ?_
  refine zr_iadd (q := 1273) dL_law_1272 rfl (fun _ _ => ⟨by omega, by omega⟩) ?_
  refine zr_sald (q := 1274) (fun _ _ h => h) (by omega) (by omega) dL_law_1273 rfl ?_
  refine zr_aloadn (k := 3) (q := 1275) rfl dL_law_1274 rfl ?_
  refine zr_callSH (st := []) (as := [(1, 1), (0, (xs (i + 1).toNat).toInt), (1, 529)]) (n := 3) (q := 1278) hW (fun k S9 M9 h => by
      obtain ⟨-, k2, h2, -⟩ := hJ _ _ _ h
      exact z_n8' h2) hyL_eliminatedIn hiL_eliminatedIn hpL_eliminatedIn hsL_eliminatedIn wkL_222 dL_law_1275 rfl rfl ⟨Nat.le_of_ble_eq_true rfl, Nat.le_of_ble_eq_true rfl, rfl⟩ rfl (Nat.zero_le _) (show 2 ≤ bc + 3 by omega) (show 12 ≤ bs + 18 by omega) (fun r S1 M1 h8 hP => ?_)
  obtain ⟨rfl, k, rfl, P2, hm, h2⟩ := hJ _ _ _ hP
  refine zr_istore (i := 6) (q := 1280) dL_law_1278 rfl (show 6 < 9 by decide) rfl ?_
  refine zr_aloadn (k := 2) (q := 1281) rfl dL_law_1280 rfl ?_
  refine zr_aloadn (k := 0) (q := 1282) rfl dL_law_1281 rfl ?_
  refine zr_iload (n := 0) (i := 5) (q := 1284) rfl dL_law_1282 rfl ?_
  refine zr_iconst (q := 1285) dL_law_1284 rfl (z_in_of rfl) ?_
  refine zr_iadd (q := 1286) dL_law_1285 rfl (fun _ _ => ⟨by omega, by omega⟩) ?_
  refine zr_sald (q := 1287) (fun _ _ h => h) (by omega) (by omega) dL_law_1286 rfl ?_
  refine zf_callV1 k517 hm mtX12_eliminatedIn wiX12_eliminatedIn weX12_eliminatedIn wkL_224 (q := 1290) dL_law_1287 rfl rfl rfl rfl rfl rfl rfl (fun r S2 M2 h9 hP2 => ?_) (fun k3 S9 M9 hP2 => by
      obtain ⟨-, b, h9, -⟩ := h2 _ _ _ hP2
      exact (z_n8' h9).elim)
  obtain ⟨rfl, b, rfl, e1, e2, R2⟩ := h2 _ _ _ hP2
  refine zr_istore (i := 7) (q := 1292) dL_law_1290 rfl (show 7 < 9 by decide) rfl ?_
  exact tl_int (p := 1292) dL_law_1292 dL_law_1293 dL_law_1296 dL_law_1298 dL_law_1303 dL_law_1305 dL_law_1308 dL_law_1309 dL_law_1310 dL_law_1311 dL_law_1313 dL_law_1314 dL_law_1315 dL_law_1320 (by decide) e1 (fun c => (e2 c).1) (zr_room (zr_fg3 (kk M2 R2)) (show bc ≤ bc + 3 - 2 - 0 - 0 by omega) (show bs ≤ bs + 18 - 12 - 0 - 0 by omega))
theorem l_isTieIn (R9 : zRl M) (hi : 0 ≤ i ∧ i + 3 ≤ (L : Int)) (hL : L ≤ 1536) (kk : ∀ M', zRl M' → z_Ex (mL_law L xs) zF 2540 [(1, -98), (1, 1), (1, 517), (1, 529), (1, 530), (0, i), (9, 0), (9, 0), (9, 0)] [] M' bc bs Q) : z_Ex (mL_law L xs) zF 1323 [(1, -98), (1, 1), (1, 517), (1, 529), (1, 530), (0, i), (9, 0), (9, 0), (9, 0)] [] M (bc + 3) (bs + 18) Q := by
  obtain ⟨P, hW, hJ⟩ := jj_isTieIn (p0 := (xs (i + 1).toNat).toInt) R9
  refine zr_aloadn (k := 1) (q := 1324) rfl dL_law_1323 rfl ?_
  refine zr_aloadn (k := 0) (q := 1325) rfl dL_law_1324 rfl ?_
  refine zr_iload (n := 0) (i := 5) (q := 1327) rfl dL_law_1325 rfl ?_
  refine zr_iconst (q := 1328) dL_law_1327 rfl (z_in_of rfl) ?_
  refine zr_iadd (q := 1329) dL_law_1328 rfl (fun _ _ => ⟨by omega, by omega⟩) ?_
  refine zr_sald (q := 1330) (fun _ _ h => h) (by omega) (by omega) dL_law_1329 rfl ?_
  refine zr_aloadn (k := 3) (q := 1331) rfl dL_law_1330 rfl ?_
  refine zr_callSH (st := []) (as := [(1, 1), (0, (xs (i + 1).toNat).toInt), (1, 529)]) (n := 3) (q := 1334) hW (fun k S9 M9 h => by
      obtain ⟨-, k2, h2, -⟩ := hJ _ _ _ h
      exact z_n8' h2) hyL_isTieIn hiL_isTieIn hpL_isTieIn hsL_isTieIn wkL_225 dL_law_1331 rfl rfl ⟨Nat.le_of_ble_eq_true rfl, Nat.le_of_ble_eq_true rfl, rfl⟩ rfl (Nat.zero_le _) (show 1 ≤ bc + 3 by omega) (show 6 ≤ bs + 18 by omega) (fun r S1 M1 h8 hP => ?_)
  obtain ⟨rfl, k, rfl, P2, hm, h2⟩ := hJ _ _ _ hP
  refine zr_istore (i := 6) (q := 1336) dL_law_1334 rfl (show 6 < 9 by decide) rfl ?_
  refine zr_aloadn (k := 2) (q := 1337) rfl dL_law_1336 rfl ?_
  refine zr_aloadn (k := 0) (q := 1338) rfl dL_law_1337 rfl ?_
  refine zr_iload (n := 0) (i := 5) (q := 1340) rfl dL_law_1338 rfl ?_
  refine zr_iconst (q := 1341) dL_law_1340 rfl (z_in_of rfl) ?_
  refine zr_iadd (q := 1342) dL_law_1341 rfl (fun _ _ => ⟨by omega, by omega⟩) ?_
  refine zr_sald (q := 1343) (fun _ _ h => h) (by omega) (by omega) dL_law_1342 rfl ?_
  refine zf_callV1 k517 hm mtX12_isTieIn wiX12_isTieIn weX12_isTieIn wkL_227 (q := 1346) dL_law_1343 rfl rfl rfl rfl rfl rfl rfl (fun r S2 M2 h9 hP2 => ?_) (fun k3 S9 M9 hP2 => by
      obtain ⟨-, b, h9, -⟩ := h2 _ _ _ hP2
      exact (z_n8' h9).elim)
  obtain ⟨rfl, b, rfl, e1, e2, R2⟩ := h2 _ _ _ hP2
  refine zr_istore (i := 7) (q := 1348) dL_law_1346 rfl (show 7 < 9 by decide) rfl ?_
  exact tl_bool (p := 1348) dL_law_1348 dL_law_1349 dL_law_1352 dL_law_1354 dL_law_1359 dL_law_1361 dL_law_1364 dL_law_1365 dL_law_1366 dL_law_1367 dL_law_1369 dL_law_1372 dL_law_1373 dL_law_1376 dL_law_1377 dL_law_1378 dL_law_1383 (by decide) e1 e2 (zr_room (zr_fg3 (kk M2 R2)) (show bc ≤ bc + 3 - 1 - 0 - 0 by omega) (show bs ≤ bs + 18 - 6 - 0 - 0 by omega))
theorem l_roundOfElimination (R9 : zRl M) (hi : 0 ≤ i ∧ i + 3 ≤ (L : Int)) (hL : L ≤ 1536) (kk : ∀ M', zRl M' → z_Ex (mL_law L xs) zF 2540 [(1, -98), (1, 1), (1, 517), (1, 529), (1, 530), (0, i), (9, 0), (9, 0), (9, 0)] [] M' bc bs Q) : z_Ex (mL_law L xs) zF 1386 [(1, -98), (1, 1), (1, 517), (1, 529), (1, 530), (0, i), (9, 0), (9, 0), (9, 0)] [] M (bc + 3) (bs + 18) Q := by
  obtain ⟨P, hW, hJ⟩ := jj_roundOfElimination (p0 := (xs (i + 1).toNat).toInt) R9
  refine zr_aloadn (k := 1) (q := 1387) rfl dL_law_1386 rfl ?_
  refine zr_aloadn (k := 0) (q := 1388) rfl dL_law_1387 rfl ?_
  refine zr_iload (n := 0) (i := 5) (q := 1390) rfl dL_law_1388 rfl ?_
  refine zr_iconst (q := 1391) dL_law_1390 rfl (z_in_of rfl) ?_
  refine zr_iadd (q := 1392) dL_law_1391 rfl (fun _ _ => ⟨by omega, by omega⟩) ?_
  refine zr_sald (q := 1393) (fun _ _ h => h) (by omega) (by omega) dL_law_1392 rfl ?_
  refine zr_aloadn (k := 3) (q := 1394) rfl dL_law_1393 rfl ?_
  refine zr_callSH (st := []) (as := [(1, 1), (0, (xs (i + 1).toNat).toInt), (1, 529)]) (n := 3) (q := 1397) hW (fun k S9 M9 h => by
      obtain ⟨-, k2, h2, -⟩ := hJ _ _ _ h
      exact z_n8' h2) hyL_roundOfElimination hiL_roundOfElimination hpL_roundOfElimination hsL_roundOfElimination wkL_228 dL_law_1394 rfl rfl ⟨Nat.le_of_ble_eq_true rfl, Nat.le_of_ble_eq_true rfl, rfl⟩ rfl (Nat.zero_le _) (show 2 ≤ bc + 3 by omega) (show 12 ≤ bs + 18 by omega) (fun r S1 M1 h8 hP => ?_)
  obtain ⟨rfl, k, rfl, P2, hm, h2⟩ := hJ _ _ _ hP
  refine zr_istore (i := 6) (q := 1399) dL_law_1397 rfl (show 6 < 9 by decide) rfl ?_
  refine zr_aloadn (k := 2) (q := 1400) rfl dL_law_1399 rfl ?_
  refine zr_aloadn (k := 0) (q := 1401) rfl dL_law_1400 rfl ?_
  refine zr_iload (n := 0) (i := 5) (q := 1403) rfl dL_law_1401 rfl ?_
  refine zr_iconst (q := 1404) dL_law_1403 rfl (z_in_of rfl) ?_
  refine zr_iadd (q := 1405) dL_law_1404 rfl (fun _ _ => ⟨by omega, by omega⟩) ?_
  refine zr_sald (q := 1406) (fun _ _ h => h) (by omega) (by omega) dL_law_1405 rfl ?_
  refine zf_callV1 k517 hm mtX12_roundOfElimination wiX12_roundOfElimination weX12_roundOfElimination wkL_230 (q := 1409) dL_law_1406 rfl rfl rfl rfl rfl rfl rfl (fun r S2 M2 h9 hP2 => ?_) (fun k3 S9 M9 hP2 => by
      obtain ⟨-, b, h9, -⟩ := h2 _ _ _ hP2
      exact (z_n8' h9).elim)
  obtain ⟨rfl, b, rfl, e1, e2, R2⟩ := h2 _ _ _ hP2
  refine zr_istore (i := 7) (q := 1411) dL_law_1409 rfl (show 7 < 9 by decide) rfl ?_
  exact tl_int (p := 1411) dL_law_1411 dL_law_1412 dL_law_1415 dL_law_1417 dL_law_1422 dL_law_1424 dL_law_1427 dL_law_1428 dL_law_1429 dL_law_1430 dL_law_1432 dL_law_1433 dL_law_1434 dL_law_1439 (by decide) e1 (fun c => (e2 c).1) (zr_room (zr_fg3 (kk M2 R2)) (show bc ≤ bc + 3 - 2 - 0 - 0 by omega) (show bs ≤ bs + 18 - 12 - 0 - 0 by omega))
theorem l_winnerShare (R9 : zRl M) (hi : 0 ≤ i ∧ i + 3 ≤ (L : Int)) (hL : L ≤ 1536) (kk : ∀ M', zRl M' → z_Ex (mL_law L xs) zF 2540 [(1, -98), (1, 1), (1, 517), (1, 529), (1, 530), (0, i), (9, 0), (9, 0), (9, 0)] [] M' bc bs Q) : z_Ex (mL_law L xs) zF 1442 [(1, -98), (1, 1), (1, 517), (1, 529), (1, 530), (0, i), (9, 0), (9, 0), (9, 0)] [] M (bc + 3) (bs + 18) Q := by
  obtain ⟨P, hW, hJ⟩ := jj_winnerShare R9
  refine zr_aloadn (k := 1) (q := 1443) rfl dL_law_1442 rfl ?_
  refine zr_aload (i := 4) (q := 1445) rfl dL_law_1443 rfl ?_
  refine zr_callSH (st := []) (as := [(1, 1), (1, 530)]) (n := 2) (q := 1448) hW (fun k S9 M9 h => by
      obtain ⟨-, k2, h2, -⟩ := hJ _ _ _ h
      exact z_n8' h2) hyL_winnerShare hiL_winnerShare hpL_winnerShare hsL_winnerShare wkL_231 dL_law_1445 rfl rfl ⟨Nat.le_of_ble_eq_true rfl, Nat.le_of_ble_eq_true rfl, rfl⟩ rfl (Nat.zero_le _) (show 1 ≤ bc + 3 by omega) (show 6 ≤ bs + 18 by omega) (fun r S1 M1 h8 hP => ?_)
  obtain ⟨rfl, k, rfl, P2, hm, h2⟩ := hJ _ _ _ hP
  refine zr_istore (i := 6) (q := 1450) dL_law_1448 rfl (show 6 < 9 by decide) rfl ?_
  refine zr_aloadn (k := 2) (q := 1451) rfl dL_law_1450 rfl ?_
  refine zf_callV0 k517 hm mtX12_winnerShare wiX12_winnerShare weX12_winnerShare wkL_234 (q := 1454) dL_law_1451 rfl rfl rfl rfl rfl rfl rfl (fun r S2 M2 h9 hP2 => ?_) (fun k3 S9 M9 hP2 => by
      obtain ⟨-, b, h9, -⟩ := h2 _ _ _ hP2
      exact (z_n83 h9).elim)
  obtain ⟨rfl, b, rfl, e1, e2, R2⟩ := h2 _ _ _ hP2
  refine zr_fstore (i := 7) (q := 1456) dL_law_1454 rfl (show 7 < 9 by decide) rfl ?_
  exact tl_flt (p := 1456) dL_law_1456 dL_law_1457 dL_law_1460 dL_law_1462 dL_law_1467 dL_law_1469 dL_law_1472 dL_law_1474 dL_law_1475 dL_law_1476 dL_law_1478 dL_law_1479 dL_law_1480 dL_law_1505 (by decide) e1 e2 (zr_room (zr_fg3 (kk M2 R2)) (show bc ≤ bc + 3 - 1 - 0 - 0 by omega) (show bs ≤ bs + 18 - 6 - 0 - 0 by omega))
theorem l_preference (R9 : zRl M) (hi : 0 ≤ i ∧ i + 3 ≤ (L : Int)) (hL : L ≤ 1536) (kk : ∀ M', zRl M' → z_Ex (mL_law L xs) zF 2540 [(1, -98), (1, 1), (1, 517), (1, 529), (1, 530), (0, i), (9, 0), (9, 0), (9, 0)] [] M' bc bs Q) : z_Ex (mL_law L xs) zF 1508 [(1, -98), (1, 1), (1, 517), (1, 529), (1, 530), (0, i), (9, 0), (9, 0), (9, 0)] [] M (bc + 3) (bs + 18) Q := by
  obtain ⟨P, hW, hJ⟩ := jj_preference (p0 := (xs (i + 1).toNat).toInt) (p1 := (xs (i + 2).toNat).toInt) R9
  refine zr_aloadn (k := 1) (q := 1509) rfl dL_law_1508 rfl ?_
  refine zr_aloadn (k := 0) (q := 1510) rfl dL_law_1509 rfl ?_
  refine zr_iload (n := 0) (i := 5) (q := 1512) rfl dL_law_1510 rfl ?_
  refine zr_iconst (q := 1513) dL_law_1512 rfl (z_in_of rfl) ?_
  refine zr_iadd (q := 1514) dL_law_1513 rfl (fun _ _ => ⟨by omega, by omega⟩) ?_
  refine zr_sald (q := 1515) (fun _ _ h => h) (by omega) (by omega) dL_law_1514 rfl ?_
  refine zr_aloadn (k := 0) (q := 1516) rfl dL_law_1515 rfl ?_
  refine zr_iload (n := 0) (i := 5) (q := 1518) rfl dL_law_1516 rfl ?_
  refine zr_iconst (q := 1519) dL_law_1518 rfl (z_in_of rfl) ?_
  refine zr_iadd (q := 1520) dL_law_1519 rfl (fun _ _ => ⟨by omega, by omega⟩) ?_
  refine zr_sald (q := 1521) (fun _ _ h => h) (by omega) (by omega) dL_law_1520 rfl ?_
  refine zr_aloadn (k := 3) (q := 1522) rfl dL_law_1521 rfl ?_
  refine zr_callSH (st := []) (as := [(1, 1), (0, (xs (i + 1).toNat).toInt), (0, (xs (i + 2).toNat).toInt), (1, 529)]) (n := 4) (q := 1525) hW (fun k S9 M9 h => by
      obtain ⟨-, k2, h2, -⟩ := hJ _ _ _ h
      exact z_n8' h2) hyL_preference hiL_preference hpL_preference hsL_preference wkL_235 dL_law_1522 rfl rfl ⟨Nat.le_of_ble_eq_true rfl, Nat.le_of_ble_eq_true rfl, rfl⟩ rfl (Nat.zero_le _) (show 2 ≤ bc + 3 by omega) (show 12 ≤ bs + 18 by omega) (fun r S1 M1 h8 hP => ?_)
  obtain ⟨rfl, k, rfl, P2, hm, h2⟩ := hJ _ _ _ hP
  refine zr_istore (i := 6) (q := 1527) dL_law_1525 rfl (show 6 < 9 by decide) rfl ?_
  refine zr_aloadn (k := 2) (q := 1528) rfl dL_law_1527 rfl ?_
  refine zr_aloadn (k := 0) (q := 1529) rfl dL_law_1528 rfl ?_
  refine zr_iload (n := 0) (i := 5) (q := 1531) rfl dL_law_1529 rfl ?_
  refine zr_iconst (q := 1532) dL_law_1531 rfl (z_in_of rfl) ?_
  refine zr_iadd (q := 1533) dL_law_1532 rfl (fun _ _ => ⟨by omega, by omega⟩) ?_
  refine zr_sald (q := 1534) (fun _ _ h => h) (by omega) (by omega) dL_law_1533 rfl ?_
  refine zr_aloadn (k := 0) (q := 1535) rfl dL_law_1534 rfl ?_
  refine zr_iload (n := 0) (i := 5) (q := 1537) rfl dL_law_1535 rfl ?_
  refine zr_iconst (q := 1538) dL_law_1537 rfl (z_in_of rfl) ?_
  refine zr_iadd (q := 1539) dL_law_1538 rfl (fun _ _ => ⟨by omega, by omega⟩) ?_
  refine zr_sald (q := 1540) (fun _ _ h => h) (by omega) (by omega) dL_law_1539 rfl ?_
  refine zf_callV2 k517 hm mtX12_preference wiX12_preference weX12_preference wkL_237 (q := 1543) dL_law_1540 rfl rfl rfl rfl rfl rfl rfl (fun r S2 M2 h9 hP2 => ?_) (fun k3 S9 M9 hP2 => by
      obtain ⟨-, b, h9, -⟩ := h2 _ _ _ hP2
      exact (z_n8' h9).elim)
  obtain ⟨rfl, b, rfl, e1, e2, R2⟩ := h2 _ _ _ hP2
  refine zr_istore (i := 7) (q := 1545) dL_law_1543 rfl (show 7 < 9 by decide) rfl ?_
  exact tl_int (p := 1545) dL_law_1545 dL_law_1546 dL_law_1549 dL_law_1551 dL_law_1556 dL_law_1558 dL_law_1561 dL_law_1562 dL_law_1563 dL_law_1564 dL_law_1566 dL_law_1567 dL_law_1568 dL_law_1573 (by decide) e1 (fun c => (e2 c).1) (zr_room (zr_fg3 (kk M2 R2)) (show bc ≤ bc + 3 - 2 - 0 - 0 by omega) (show bs ≤ bs + 18 - 12 - 0 - 0 by omega))
theorem l_beats (R9 : zRl M) (hi : 0 ≤ i ∧ i + 3 ≤ (L : Int)) (hL : L ≤ 1536) (kk : ∀ M', zRl M' → z_Ex (mL_law L xs) zF 2540 [(1, -98), (1, 1), (1, 517), (1, 529), (1, 530), (0, i), (9, 0), (9, 0), (9, 0)] [] M' bc bs Q) : z_Ex (mL_law L xs) zF 1576 [(1, -98), (1, 1), (1, 517), (1, 529), (1, 530), (0, i), (9, 0), (9, 0), (9, 0)] [] M (bc + 3) (bs + 18) Q := by
  obtain ⟨P, hW, hJ⟩ := jj_beats (p0 := (xs (i + 1).toNat).toInt) (p1 := (xs (i + 2).toNat).toInt) R9
  refine zr_aloadn (k := 1) (q := 1577) rfl dL_law_1576 rfl ?_
  refine zr_aloadn (k := 0) (q := 1578) rfl dL_law_1577 rfl ?_
  refine zr_iload (n := 0) (i := 5) (q := 1580) rfl dL_law_1578 rfl ?_
  refine zr_iconst (q := 1581) dL_law_1580 rfl (z_in_of rfl) ?_
  refine zr_iadd (q := 1582) dL_law_1581 rfl (fun _ _ => ⟨by omega, by omega⟩) ?_
  refine zr_sald (q := 1583) (fun _ _ h => h) (by omega) (by omega) dL_law_1582 rfl ?_
  refine zr_aloadn (k := 0) (q := 1584) rfl dL_law_1583 rfl ?_
  refine zr_iload (n := 0) (i := 5) (q := 1586) rfl dL_law_1584 rfl ?_
  refine zr_iconst (q := 1587) dL_law_1586 rfl (z_in_of rfl) ?_
  refine zr_iadd (q := 1588) dL_law_1587 rfl (fun _ _ => ⟨by omega, by omega⟩) ?_
  refine zr_sald (q := 1589) (fun _ _ h => h) (by omega) (by omega) dL_law_1588 rfl ?_
  refine zr_aloadn (k := 3) (q := 1590) rfl dL_law_1589 rfl ?_
  refine zr_callSH (st := []) (as := [(1, 1), (0, (xs (i + 1).toNat).toInt), (0, (xs (i + 2).toNat).toInt), (1, 529)]) (n := 4) (q := 1593) hW (fun k S9 M9 h => by
      obtain ⟨-, k2, h2, -⟩ := hJ _ _ _ h
      exact z_n8' h2) hyL_beats hiL_beats hpL_beats hsL_beats wkL_238 dL_law_1590 rfl rfl ⟨Nat.le_of_ble_eq_true rfl, Nat.le_of_ble_eq_true rfl, rfl⟩ rfl (Nat.zero_le _) (show 2 ≤ bc + 3 by omega) (show 12 ≤ bs + 18 by omega) (fun r S1 M1 h8 hP => ?_)
  obtain ⟨rfl, k, rfl, P2, hm, h2⟩ := hJ _ _ _ hP
  refine zr_istore (i := 6) (q := 1595) dL_law_1593 rfl (show 6 < 9 by decide) rfl ?_
  refine zr_aloadn (k := 2) (q := 1596) rfl dL_law_1595 rfl ?_
  refine zr_aloadn (k := 0) (q := 1597) rfl dL_law_1596 rfl ?_
  refine zr_iload (n := 0) (i := 5) (q := 1599) rfl dL_law_1597 rfl ?_
  refine zr_iconst (q := 1600) dL_law_1599 rfl (z_in_of rfl) ?_
  refine zr_iadd (q := 1601) dL_law_1600 rfl (fun _ _ => ⟨by omega, by omega⟩) ?_
  refine zr_sald (q := 1602) (fun _ _ h => h) (by omega) (by omega) dL_law_1601 rfl ?_
  refine zr_aloadn (k := 0) (q := 1603) rfl dL_law_1602 rfl ?_
  refine zr_iload (n := 0) (i := 5) (q := 1605) rfl dL_law_1603 rfl ?_
  refine zr_iconst (q := 1606) dL_law_1605 rfl (z_in_of rfl) ?_
  refine zr_iadd (q := 1607) dL_law_1606 rfl (fun _ _ => ⟨by omega, by omega⟩) ?_
  refine zr_sald (q := 1608) (fun _ _ h => h) (by omega) (by omega) dL_law_1607 rfl ?_
  refine zf_callV2 k517 hm mtX12_beats wiX12_beats weX12_beats wkL_240 (q := 1611) dL_law_1608 rfl rfl rfl rfl rfl rfl rfl (fun r S2 M2 h9 hP2 => ?_) (fun k3 S9 M9 hP2 => by
      obtain ⟨-, b, h9, -⟩ := h2 _ _ _ hP2
      exact (z_n8' h9).elim)
  obtain ⟨rfl, b, rfl, e1, e2, R2⟩ := h2 _ _ _ hP2
  refine zr_istore (i := 7) (q := 1613) dL_law_1611 rfl (show 7 < 9 by decide) rfl ?_
  exact tl_bool (p := 1613) dL_law_1613 dL_law_1614 dL_law_1617 dL_law_1619 dL_law_1624 dL_law_1626 dL_law_1629 dL_law_1630 dL_law_1631 dL_law_1632 dL_law_1634 dL_law_1637 dL_law_1638 dL_law_1641 dL_law_1642 dL_law_1643 dL_law_1648 (by decide) e1 e2 (zr_room (zr_fg3 (kk M2 R2)) (show bc ≤ bc + 3 - 2 - 0 - 0 by omega) (show bs ≤ bs + 18 - 12 - 0 - 0 by omega))
theorem l_victories (R9 : zRl M) (hi : 0 ≤ i ∧ i + 3 ≤ (L : Int)) (hL : L ≤ 1536) (kk : ∀ M', zRl M' → z_Ex (mL_law L xs) zF 2540 [(1, -98), (1, 1), (1, 517), (1, 529), (1, 530), (0, i), (9, 0), (9, 0), (9, 0)] [] M' bc bs Q) : z_Ex (mL_law L xs) zF 1651 [(1, -98), (1, 1), (1, 517), (1, 529), (1, 530), (0, i), (9, 0), (9, 0), (9, 0)] [] M (bc + 3) (bs + 18) Q := by
  obtain ⟨P, hW, hJ⟩ := jj_victories (p0 := (xs (i + 1).toNat).toInt) R9
  refine zr_aloadn (k := 1) (q := 1652) rfl dL_law_1651 rfl ?_
  refine zr_aloadn (k := 0) (q := 1653) rfl dL_law_1652 rfl ?_
  refine zr_iload (n := 0) (i := 5) (q := 1655) rfl dL_law_1653 rfl ?_
  refine zr_iconst (q := 1656) dL_law_1655 rfl (z_in_of rfl) ?_
  refine zr_iadd (q := 1657) dL_law_1656 rfl (fun _ _ => ⟨by omega, by omega⟩) ?_
  refine zr_sald (q := 1658) (fun _ _ h => h) (by omega) (by omega) dL_law_1657 rfl ?_
  refine zr_aloadn (k := 3) (q := 1659) rfl dL_law_1658 rfl ?_
  refine zr_callSH (st := []) (as := [(1, 1), (0, (xs (i + 1).toNat).toInt), (1, 529)]) (n := 3) (q := 1662) hW (fun k S9 M9 h => by
      obtain ⟨-, k2, h2, -⟩ := hJ _ _ _ h
      exact z_n8' h2) hyL_victories hiL_victories hpL_victories hsL_victories wkL_241 dL_law_1659 rfl rfl ⟨Nat.le_of_ble_eq_true rfl, Nat.le_of_ble_eq_true rfl, rfl⟩ rfl (Nat.zero_le _) (show 1 ≤ bc + 3 by omega) (show 6 ≤ bs + 18 by omega) (fun r S1 M1 h8 hP => ?_)
  obtain ⟨rfl, k, rfl, P2, hm, h2⟩ := hJ _ _ _ hP
  refine zr_istore (i := 6) (q := 1664) dL_law_1662 rfl (show 6 < 9 by decide) rfl ?_
  refine zr_aloadn (k := 2) (q := 1665) rfl dL_law_1664 rfl ?_
  refine zr_aloadn (k := 0) (q := 1666) rfl dL_law_1665 rfl ?_
  refine zr_iload (n := 0) (i := 5) (q := 1668) rfl dL_law_1666 rfl ?_
  refine zr_iconst (q := 1669) dL_law_1668 rfl (z_in_of rfl) ?_
  refine zr_iadd (q := 1670) dL_law_1669 rfl (fun _ _ => ⟨by omega, by omega⟩) ?_
  refine zr_sald (q := 1671) (fun _ _ h => h) (by omega) (by omega) dL_law_1670 rfl ?_
  refine zf_callV1 k517 hm mtX12_victories wiX12_victories weX12_victories wkL_243 (q := 1674) dL_law_1671 rfl rfl rfl rfl rfl rfl rfl (fun r S2 M2 h9 hP2 => ?_) (fun k3 S9 M9 hP2 => by
      obtain ⟨-, b, h9, -⟩ := h2 _ _ _ hP2
      exact (z_n8' h9).elim)
  obtain ⟨rfl, b, rfl, e1, e2, R2⟩ := h2 _ _ _ hP2
  refine zr_istore (i := 7) (q := 1676) dL_law_1674 rfl (show 7 < 9 by decide) rfl ?_
  exact tl_int (p := 1676) dL_law_1676 dL_law_1677 dL_law_1680 dL_law_1682 dL_law_1687 dL_law_1689 dL_law_1692 dL_law_1693 dL_law_1694 dL_law_1695 dL_law_1697 dL_law_1698 dL_law_1699 dL_law_1704 (by decide) e1 (fun c => (e2 c).1) (zr_room (zr_fg3 (kk M2 R2)) (show bc ≤ bc + 3 - 1 - 0 - 0 by omega) (show bs ≤ bs + 18 - 6 - 0 - 0 by omega))
theorem l_championOfPairs (R9 : zRl M) (hi : 0 ≤ i ∧ i + 3 ≤ (L : Int)) (hL : L ≤ 1536) (kk : ∀ M', zRl M' → z_Ex (mL_law L xs) zF 2540 [(1, -98), (1, 1), (1, 517), (1, 529), (1, 530), (0, i), (9, 0), (9, 0), (9, 0)] [] M' bc bs Q) : z_Ex (mL_law L xs) zF 1707 [(1, -98), (1, 1), (1, 517), (1, 529), (1, 530), (0, i), (9, 0), (9, 0), (9, 0)] [] M (bc + 3) (bs + 18) Q := by
  obtain ⟨P, hW, hJ⟩ := jj_championOfPairs R9
  refine zr_aloadn (k := 1) (q := 1708) rfl dL_law_1707 rfl ?_
  refine zr_aloadn (k := 3) (q := 1709) rfl dL_law_1708 rfl ?_
  refine zr_callSH (st := []) (as := [(1, 1), (1, 529)]) (n := 2) (q := 1712) hW (fun k S9 M9 h => by
      obtain ⟨-, k2, h2, -⟩ := hJ _ _ _ h
      exact z_n8' h2) hyL_championOfPairs hiL_championOfPairs hpL_championOfPairs hsL_championOfPairs wkL_244 dL_law_1709 rfl rfl ⟨Nat.le_of_ble_eq_true rfl, Nat.le_of_ble_eq_true rfl, rfl⟩ rfl (Nat.zero_le _) (show 1 ≤ bc + 3 by omega) (show 6 ≤ bs + 18 by omega) (fun r S1 M1 h8 hP => ?_)
  obtain ⟨rfl, k, rfl, P2, hm, h2⟩ := hJ _ _ _ hP
  refine zr_istore (i := 6) (q := 1714) dL_law_1712 rfl (show 6 < 9 by decide) rfl ?_
  refine zr_aloadn (k := 2) (q := 1715) rfl dL_law_1714 rfl ?_
  refine zf_callV0 k517 hm mtX12_championOfPairs wiX12_championOfPairs weX12_championOfPairs wkL_246 (q := 1718) dL_law_1715 rfl rfl rfl rfl rfl rfl rfl (fun r S2 M2 h9 hP2 => ?_) (fun k3 S9 M9 hP2 => by
      obtain ⟨-, b, h9, -⟩ := h2 _ _ _ hP2
      exact (z_n8' h9).elim)
  obtain ⟨rfl, b, rfl, e1, e2, R2⟩ := h2 _ _ _ hP2
  refine zr_istore (i := 7) (q := 1720) dL_law_1718 rfl (show 7 < 9 by decide) rfl ?_
  exact tl_int (p := 1720) dL_law_1720 dL_law_1721 dL_law_1724 dL_law_1726 dL_law_1731 dL_law_1733 dL_law_1736 dL_law_1737 dL_law_1738 dL_law_1739 dL_law_1741 dL_law_1742 dL_law_1743 dL_law_1748 (by decide) e1 (fun c => (e2 c).1) (zr_room (zr_fg3 (kk M2 R2)) (show bc ≤ bc + 3 - 1 - 0 - 0 by omega) (show bs ≤ bs + 18 - 6 - 0 - 0 by omega))
theorem l_championByDuels (R9 : zRl M) (hi : 0 ≤ i ∧ i + 3 ≤ (L : Int)) (hL : L ≤ 1536) (kk : ∀ M', zRl M' → z_Ex (mL_law L xs) zF 2540 [(1, -98), (1, 1), (1, 517), (1, 529), (1, 530), (0, i), (9, 0), (9, 0), (9, 0)] [] M' bc bs Q) : z_Ex (mL_law L xs) zF 1751 [(1, -98), (1, 1), (1, 517), (1, 529), (1, 530), (0, i), (9, 0), (9, 0), (9, 0)] [] M (bc + 3) (bs + 18) Q := by
  obtain ⟨P, hW, hJ⟩ := jj_championByDuels R9
  refine zr_aloadn (k := 1) (q := 1752) rfl dL_law_1751 rfl ?_
  refine zr_aloadn (k := 3) (q := 1753) rfl dL_law_1752 rfl ?_
  refine zr_callSH (st := []) (as := [(1, 1), (1, 529)]) (n := 2) (q := 1756) hW (fun k S9 M9 h => by
      obtain ⟨-, k2, h2, -⟩ := hJ _ _ _ h
      exact z_n8' h2) hyL_championByDuels hiL_championByDuels hpL_championByDuels hsL_championByDuels wkL_247 dL_law_1753 rfl rfl ⟨Nat.le_of_ble_eq_true rfl, Nat.le_of_ble_eq_true rfl, rfl⟩ rfl (Nat.zero_le _) (show 1 ≤ bc + 3 by omega) (show 6 ≤ bs + 18 by omega) (fun r S1 M1 h8 hP => ?_)
  obtain ⟨rfl, k, rfl, P2, hm, h2⟩ := hJ _ _ _ hP
  refine zr_istore (i := 6) (q := 1758) dL_law_1756 rfl (show 6 < 9 by decide) rfl ?_
  refine zr_aloadn (k := 2) (q := 1759) rfl dL_law_1758 rfl ?_
  refine zf_callV0 k517 hm mtX12_championByDuels wiX12_championByDuels weX12_championByDuels wkL_249 (q := 1762) dL_law_1759 rfl rfl rfl rfl rfl rfl rfl (fun r S2 M2 h9 hP2 => ?_) (fun k3 S9 M9 hP2 => by
      obtain ⟨-, b, h9, -⟩ := h2 _ _ _ hP2
      exact (z_n8' h9).elim)
  obtain ⟨rfl, b, rfl, e1, e2, R2⟩ := h2 _ _ _ hP2
  refine zr_istore (i := 7) (q := 1764) dL_law_1762 rfl (show 7 < 9 by decide) rfl ?_
  exact tl_int (p := 1764) dL_law_1764 dL_law_1765 dL_law_1768 dL_law_1770 dL_law_1775 dL_law_1777 dL_law_1780 dL_law_1781 dL_law_1782 dL_law_1783 dL_law_1785 dL_law_1786 dL_law_1787 dL_law_1792 (by decide) e1 (fun c => (e2 c).1) (zr_room (zr_fg3 (kk M2 R2)) (show bc ≤ bc + 3 - 1 - 0 - 0 by omega) (show bs ≤ bs + 18 - 6 - 0 - 0 by omega))
theorem l_scoreOf (R9 : zRl M) (hi : 0 ≤ i ∧ i + 3 ≤ (L : Int)) (hL : L ≤ 1536) (kk : ∀ M', zRl M' → z_Ex (mL_law L xs) zF 2540 [(1, -98), (1, 1), (1, 517), (1, 529), (1, 530), (0, i), (9, 0), (9, 0), (9, 0)] [] M' bc bs Q) : z_Ex (mL_law L xs) zF 1795 [(1, -98), (1, 1), (1, 517), (1, 529), (1, 530), (0, i), (9, 0), (9, 0), (9, 0)] [] M (bc + 3) (bs + 18) Q := by
  obtain ⟨P, hW, hJ⟩ := jj_scoreOf (p0 := (xs (i + 1).toNat).toInt) R9
  refine zr_aloadn (k := 1) (q := 1796) rfl dL_law_1795 rfl ?_
  refine zr_aloadn (k := 0) (q := 1797) rfl dL_law_1796 rfl ?_
  refine zr_iload (n := 0) (i := 5) (q := 1799) rfl dL_law_1797 rfl ?_
  refine zr_iconst (q := 1800) dL_law_1799 rfl (z_in_of rfl) ?_
  refine zr_iadd (q := 1801) dL_law_1800 rfl (fun _ _ => ⟨by omega, by omega⟩) ?_
  refine zr_sald (q := 1802) (fun _ _ h => h) (by omega) (by omega) dL_law_1801 rfl ?_
  refine zr_aloadn (k := 3) (q := 1803) rfl dL_law_1802 rfl ?_
  refine zr_callSH (st := []) (as := [(1, 1), (0, (xs (i + 1).toNat).toInt), (1, 529)]) (n := 3) (q := 1806) hW (fun k S9 M9 h => by
      obtain ⟨-, k2, h2, -⟩ := hJ _ _ _ h
      exact z_n8' h2) hyL_scoreOf hiL_scoreOf hpL_scoreOf hsL_scoreOf wkL_250 dL_law_1803 rfl rfl ⟨Nat.le_of_ble_eq_true rfl, Nat.le_of_ble_eq_true rfl, rfl⟩ rfl (Nat.zero_le _) (show 1 ≤ bc + 3 by omega) (show 6 ≤ bs + 18 by omega) (fun r S1 M1 h8 hP => ?_)
  obtain ⟨rfl, k, rfl, P2, hm, h2⟩ := hJ _ _ _ hP
  refine zr_istore (i := 6) (q := 1808) dL_law_1806 rfl (show 6 < 9 by decide) rfl ?_
  refine zr_aloadn (k := 2) (q := 1809) rfl dL_law_1808 rfl ?_
  refine zr_aloadn (k := 0) (q := 1810) rfl dL_law_1809 rfl ?_
  refine zr_iload (n := 0) (i := 5) (q := 1812) rfl dL_law_1810 rfl ?_
  refine zr_iconst (q := 1813) dL_law_1812 rfl (z_in_of rfl) ?_
  refine zr_iadd (q := 1814) dL_law_1813 rfl (fun _ _ => ⟨by omega, by omega⟩) ?_
  refine zr_sald (q := 1815) (fun _ _ h => h) (by omega) (by omega) dL_law_1814 rfl ?_
  refine zf_callV1 k517 hm mtX12_scoreOf wiX12_scoreOf weX12_scoreOf wkL_252 (q := 1818) dL_law_1815 rfl rfl rfl rfl rfl rfl rfl (fun r S2 M2 h9 hP2 => ?_) (fun k3 S9 M9 hP2 => by
      obtain ⟨-, b, h9, -⟩ := h2 _ _ _ hP2
      exact (z_n8' h9).elim)
  obtain ⟨rfl, b, rfl, e1, e2, R2⟩ := h2 _ _ _ hP2
  refine zr_istore (i := 7) (q := 1820) dL_law_1818 rfl (show 7 < 9 by decide) rfl ?_
  exact tl_int (p := 1820) dL_law_1820 dL_law_1821 dL_law_1824 dL_law_1826 dL_law_1831 dL_law_1833 dL_law_1836 dL_law_1837 dL_law_1838 dL_law_1839 dL_law_1841 dL_law_1842 dL_law_1843 dL_law_1848 (by decide) e1 (fun c => (e2 c).1) (zr_room (zr_fg3 (kk M2 R2)) (show bc ≤ bc + 3 - 1 - 0 - 0 by omega) (show bs ≤ bs + 18 - 6 - 0 - 0 by omega))
theorem l_windByScore (R9 : zRl M) (hi : 0 ≤ i ∧ i + 3 ≤ (L : Int)) (hL : L ≤ 1536) (kk : ∀ M', zRl M' → z_Ex (mL_law L xs) zF 2540 [(1, -98), (1, 1), (1, 517), (1, 529), (1, 530), (0, i), (9, 0), (9, 0), (9, 0)] [] M' bc bs Q) : z_Ex (mL_law L xs) zF 1851 [(1, -98), (1, 1), (1, 517), (1, 529), (1, 530), (0, i), (9, 0), (9, 0), (9, 0)] [] M (bc + 3) (bs + 18) Q := by
  obtain ⟨P, hW, hJ⟩ := jj_windByScore (p0 := (xs (i + 1).toNat).toInt) R9
  refine zr_aloadn (k := 1) (q := 1852) rfl dL_law_1851 rfl ?_
  refine zr_aloadn (k := 0) (q := 1853) rfl dL_law_1852 rfl ?_
  refine zr_iload (n := 0) (i := 5) (q := 1855) rfl dL_law_1853 rfl ?_
  refine zr_iconst (q := 1856) dL_law_1855 rfl (z_in_of rfl) ?_
  refine zr_iadd (q := 1857) dL_law_1856 rfl (fun _ _ => ⟨by omega, by omega⟩) ?_
  refine zr_sald (q := 1858) (fun _ _ h => h) (by omega) (by omega) dL_law_1857 rfl ?_
  refine zr_aloadn (k := 3) (q := 1859) rfl dL_law_1858 rfl ?_
  refine zr_callSH (st := []) (as := [(1, 1), (0, (xs (i + 1).toNat).toInt), (1, 529)]) (n := 3) (q := 1862) hW (fun k S9 M9 h => by
      obtain ⟨-, k2, h2, -⟩ := hJ _ _ _ h
      exact z_n8' h2) hyL_windByScore hiL_windByScore hpL_windByScore hsL_windByScore wkL_253 dL_law_1859 rfl rfl ⟨Nat.le_of_ble_eq_true rfl, Nat.le_of_ble_eq_true rfl, rfl⟩ rfl (Nat.zero_le _) (show 1 ≤ bc + 3 by omega) (show 6 ≤ bs + 18 by omega) (fun r S1 M1 h8 hP => ?_)
  obtain ⟨rfl, k, rfl, P2, hm, h2⟩ := hJ _ _ _ hP
  refine zr_istore (i := 6) (q := 1864) dL_law_1862 rfl (show 6 < 9 by decide) rfl ?_
  refine zr_aloadn (k := 2) (q := 1865) rfl dL_law_1864 rfl ?_
  refine zr_aloadn (k := 0) (q := 1866) rfl dL_law_1865 rfl ?_
  refine zr_iload (n := 0) (i := 5) (q := 1868) rfl dL_law_1866 rfl ?_
  refine zr_iconst (q := 1869) dL_law_1868 rfl (z_in_of rfl) ?_
  refine zr_iadd (q := 1870) dL_law_1869 rfl (fun _ _ => ⟨by omega, by omega⟩) ?_
  refine zr_sald (q := 1871) (fun _ _ h => h) (by omega) (by omega) dL_law_1870 rfl ?_
  refine zf_callV1 k517 hm mtX12_windByScore wiX12_windByScore weX12_windByScore wkL_255 (q := 1874) dL_law_1871 rfl rfl rfl rfl rfl rfl rfl (fun r S2 M2 h9 hP2 => ?_) (fun k3 S9 M9 hP2 => by
      obtain ⟨-, b, h9, -⟩ := h2 _ _ _ hP2
      exact (z_n8' h9).elim)
  obtain ⟨rfl, b, rfl, e1, e2, R2⟩ := h2 _ _ _ hP2
  refine zr_istore (i := 7) (q := 1876) dL_law_1874 rfl (show 7 < 9 by decide) rfl ?_
  exact tl_int (p := 1876) dL_law_1876 dL_law_1877 dL_law_1880 dL_law_1882 dL_law_1887 dL_law_1889 dL_law_1892 dL_law_1893 dL_law_1894 dL_law_1895 dL_law_1897 dL_law_1898 dL_law_1899 dL_law_1904 (by decide) e1 (fun c => (e2 c).1) (zr_room (zr_fg3 (kk M2 R2)) (show bc ≤ bc + 3 - 1 - 0 - 0 by omega) (show bs ≤ bs + 18 - 6 - 0 - 0 by omega))
theorem l_spin (R9 : zRl M) (hi : 0 ≤ i ∧ i + 3 ≤ (L : Int)) (hL : L ≤ 1536) (kk : ∀ M', zRl M' → z_Ex (mL_law L xs) zF 2540 [(1, -98), (1, 1), (1, 517), (1, 529), (1, 530), (0, i), (9, 0), (9, 0), (9, 0)] [] M' bc bs Q) : z_Ex (mL_law L xs) zF 1907 [(1, -98), (1, 1), (1, 517), (1, 529), (1, 530), (0, i), (9, 0), (9, 0), (9, 0)] [] M (bc + 3) (bs + 18) Q := by
  obtain ⟨P, hW, hJ⟩ := jj_spin R9
  refine zr_aloadn (k := 1) (q := 1908) rfl dL_law_1907 rfl ?_
  refine zf_callV0 k1 hW mtX11_spin wiX11_spin weX11_spin wkL_256 (q := 1911) dL_law_1908 rfl rfl rfl rfl rfl rfl (by simp only [Bool.and_eq_true]; exact ⟨Nat.ble_eq.mpr (show 1 ≤ bc + 3 by omega), Nat.ble_eq.mpr (show 6 ≤ bs + 18 by omega)⟩) (fun r S1 M1 h8 hP => ?_) (fun k3 S9 M9 hP => by
      obtain ⟨-, k2, h2, -⟩ := hJ _ _ _ hP
      exact (z_n8' h2).elim)
  obtain ⟨rfl, v, rfl, P2, hm, h2⟩ := hJ _ _ _ hP
  refine zr_aloadn (k := 2) (q := 1912) rfl dL_law_1911 rfl ?_
  refine zf_callV0 k517 hm mtX12_spin wiX12_spin weX12_spin wkL_259 (q := 1915) dL_law_1912 rfl rfl rfl rfl rfl rfl rfl (fun r S2 M2 h9 hP2 => ?_) (fun k3 S9 M9 hP2 => by
      exact (z_n8' (h2 _ _ _ hP2).2.1).elim)
  obtain ⟨rfl, rfl, R2⟩ := h2 _ _ _ hP2
  exact zr_icmp_eq (q := 2540) (q2 := 1918) dL_law_1915 (by decide) rfl (fun _ => zr_room (kk M2 R2) (show bc ≤ bc + 3 - 1 - 0 by omega) (show bs ≤ bs + 18 - 6 - 0 by omega)) (fun c => absurd rfl c)
theorem l_spinValue (R9 : zRl M) (hi : 0 ≤ i ∧ i + 3 ≤ (L : Int)) (hL : L ≤ 1536) (kk : ∀ M', zRl M' → z_Ex (mL_law L xs) zF 2540 [(1, -98), (1, 1), (1, 517), (1, 529), (1, 530), (0, i), (9, 0), (9, 0), (9, 0)] [] M' bc bs Q) : z_Ex (mL_law L xs) zF 1920 [(1, -98), (1, 1), (1, 517), (1, 529), (1, 530), (0, i), (9, 0), (9, 0), (9, 0)] [] M (bc + 3) (bs + 18) Q := by
  obtain ⟨P, hW, hJ⟩ := jj_spinValue R9
  refine zr_aloadn (k := 1) (q := 1921) rfl dL_law_1920 rfl ?_
  refine zf_callV0 k1 hW mtX11_spinValue wiX11_spinValue weX11_spinValue wkL_260 (q := 1924) dL_law_1921 rfl rfl rfl rfl rfl rfl (by simp only [Bool.and_eq_true]; exact ⟨Nat.ble_eq.mpr (show 0 ≤ bc + 3 by omega), Nat.ble_eq.mpr (show 0 ≤ bs + 18 by omega)⟩) (fun r S1 M1 h8 hP => ?_) (fun k3 S9 M9 hP => by
      obtain ⟨-, k2, h2, -⟩ := hJ _ _ _ hP
      exact (z_n8' h2).elim)
  obtain ⟨rfl, v, rfl, P2, hm, h2⟩ := hJ _ _ _ hP
  refine zr_aloadn (k := 2) (q := 1925) rfl dL_law_1924 rfl ?_
  refine zf_callV0 k517 hm mtX12_spinValue wiX12_spinValue weX12_spinValue wkL_263 (q := 1928) dL_law_1925 rfl rfl rfl rfl rfl rfl rfl (fun r S2 M2 h9 hP2 => ?_) (fun k3 S9 M9 hP2 => by
      exact (z_n8' (h2 _ _ _ hP2).2.1).elim)
  obtain ⟨rfl, rfl, R2⟩ := h2 _ _ _ hP2
  exact zr_icmp_eq (q := 2540) (q2 := 1931) dL_law_1928 (by decide) rfl (fun _ => zr_room (kk M2 R2) (show bc ≤ bc + 3 - 0 - 0 by omega) (show bs ≤ bs + 18 - 0 - 0 by omega)) (fun c => absurd rfl c)
theorem l_certify (R9 : zRl M) (hi : 0 ≤ i ∧ i + 3 ≤ (L : Int)) (hL : L ≤ 1536) (kk : ∀ M', zRl M' → z_Ex (mL_law L xs) zF 2540 [(1, -98), (1, 1), (1, 517), (1, 529), (1, 530), (0, i), (9, 0), (9, 0), (9, 0)] [] M' bc bs Q) : z_Ex (mL_law L xs) zF 1933 [(1, -98), (1, 1), (1, 517), (1, 529), (1, 530), (0, i), (9, 0), (9, 0), (9, 0)] [] M (bc + 3) (bs + 18) Q := by
  obtain ⟨P, hW, hJ⟩ := jj_certify R9
  refine zr_aloadn (k := 1) (q := 1934) rfl dL_law_1933 rfl ?_
  refine zr_aloadn (k := 3) (q := 1935) rfl dL_law_1934 rfl ?_
  refine zr_callSH (st := []) (as := [(1, 1), (1, 529)]) (n := 2) (q := 1938) hW (fun k S9 M9 h => by
      obtain ⟨-, k2, h2, -⟩ := hJ _ _ _ h
      exact z_n8' h2) hyL_certify hiL_certify hpL_certify hsL_certify wkL_264 dL_law_1935 rfl rfl ⟨Nat.le_of_ble_eq_true rfl, Nat.le_of_ble_eq_true rfl, rfl⟩ rfl (Nat.zero_le _) (show 1 ≤ bc + 3 by omega) (show 6 ≤ bs + 18 by omega) (fun r S1 M1 h8 hP => ?_)
  obtain ⟨rfl, k, rfl, P2, hm, h2⟩ := hJ _ _ _ hP
  refine zr_istore (i := 6) (q := 1940) dL_law_1938 rfl (show 6 < 9 by decide) rfl ?_
  refine zr_aloadn (k := 2) (q := 1941) rfl dL_law_1940 rfl ?_
  refine zf_callV0 k517 hm mtX12_certify wiX12_certify weX12_certify wkL_266 (q := 1944) dL_law_1941 rfl rfl rfl rfl rfl rfl rfl (fun r S2 M2 h9 hP2 => ?_) (fun k3 S9 M9 hP2 => by
      obtain ⟨-, b, h9, -⟩ := h2 _ _ _ hP2
      exact (z_n8' h9).elim)
  obtain ⟨rfl, b, rfl, e1, e2, R2⟩ := h2 _ _ _ hP2
  refine zr_istore (i := 7) (q := 1946) dL_law_1944 rfl (show 7 < 9 by decide) rfl ?_
  exact tl_int (p := 1946) dL_law_1946 dL_law_1947 dL_law_1950 dL_law_1952 dL_law_1957 dL_law_1959 dL_law_1962 dL_law_1963 dL_law_1964 dL_law_1965 dL_law_1967 dL_law_1968 dL_law_1969 dL_law_1974 (by decide) e1 (fun c => (e2 c).1) (zr_room (zr_fg3 (kk M2 R2)) (show bc ≤ bc + 3 - 1 - 0 - 0 by omega) (show bs ≤ bs + 18 - 6 - 0 - 0 by omega))
theorem l_seatCount (R9 : zRl M) (hi : 0 ≤ i ∧ i + 3 ≤ (L : Int)) (hL : L ≤ 1536) (kk : ∀ M', zRl M' → z_Ex (mL_law L xs) zF 2540 [(1, -98), (1, 1), (1, 517), (1, 529), (1, 530), (0, i), (9, 0), (9, 0), (9, 0)] [] M' bc bs Q) : z_Ex (mL_law L xs) zF 1977 [(1, -98), (1, 1), (1, 517), (1, 529), (1, 530), (0, i), (9, 0), (9, 0), (9, 0)] [] M (bc + 3) (bs + 18) Q := by
  obtain ⟨P, hW, hJ⟩ := jj_seatCount R9
  refine zr_aloadn (k := 1) (q := 1978) rfl dL_law_1977 rfl ?_
  refine zf_callV0 k1 hW mtX11_seatCount wiX11_seatCount weX11_seatCount wkL_267 (q := 1981) dL_law_1978 rfl rfl rfl rfl rfl rfl (by simp only [Bool.and_eq_true]; exact ⟨Nat.ble_eq.mpr (show 0 ≤ bc + 3 by omega), Nat.ble_eq.mpr (show 0 ≤ bs + 18 by omega)⟩) (fun r S1 M1 h8 hP => ?_) (fun k3 S9 M9 hP => by
      obtain ⟨-, k2, h2, -⟩ := hJ _ _ _ hP
      exact (z_n8' h2).elim)
  obtain ⟨rfl, v, rfl, P2, hm, h2⟩ := hJ _ _ _ hP
  refine zr_aloadn (k := 2) (q := 1982) rfl dL_law_1981 rfl ?_
  refine zf_callV0 k517 hm mtX12_seatCount wiX12_seatCount weX12_seatCount wkL_270 (q := 1985) dL_law_1982 rfl rfl rfl rfl rfl rfl rfl (fun r S2 M2 h9 hP2 => ?_) (fun k3 S9 M9 hP2 => by
      exact (z_n8' (h2 _ _ _ hP2).2.1).elim)
  obtain ⟨rfl, rfl, R2⟩ := h2 _ _ _ hP2
  exact zr_icmp_eq (q := 2540) (q2 := 1988) dL_law_1985 (by decide) rfl (fun _ => zr_room (kk M2 R2) (show bc ≤ bc + 3 - 0 - 0 by omega) (show bs ≤ bs + 18 - 0 - 0 by omega)) (fun c => absurd rfl c)
theorem l_seatAt (R9 : zRl M) (hi : 0 ≤ i ∧ i + 3 ≤ (L : Int)) (hL : L ≤ 1536) (kk : ∀ M', zRl M' → z_Ex (mL_law L xs) zF 2540 [(1, -98), (1, 1), (1, 517), (1, 529), (1, 530), (0, i), (9, 0), (9, 0), (9, 0)] [] M' bc bs Q) : z_Ex (mL_law L xs) zF 1990 [(1, -98), (1, 1), (1, 517), (1, 529), (1, 530), (0, i), (9, 0), (9, 0), (9, 0)] [] M (bc + 3) (bs + 18) Q := by
  obtain ⟨P, hW, hJ⟩ := jj_seatAt (p0 := (xs (i + 1).toNat).toInt) R9
  refine zr_aloadn (k := 1) (q := 1991) rfl dL_law_1990 rfl ?_
  refine zr_aloadn (k := 0) (q := 1992) rfl dL_law_1991 rfl ?_
  refine zr_iload (n := 0) (i := 5) (q := 1994) rfl dL_law_1992 rfl ?_
  refine zr_iconst (q := 1995) dL_law_1994 rfl (z_in_of rfl) ?_
  refine zr_iadd (q := 1996) dL_law_1995 rfl (fun _ _ => ⟨by omega, by omega⟩) ?_
  refine zr_sald (q := 1997) (fun _ _ h => h) (by omega) (by omega) dL_law_1996 rfl ?_
  refine zr_aloadn (k := 3) (q := 1998) rfl dL_law_1997 rfl ?_
  refine zr_callSH (st := []) (as := [(1, 1), (0, (xs (i + 1).toNat).toInt), (1, 529)]) (n := 3) (q := 2001) hW (fun k S9 M9 h => by
      obtain ⟨-, k2, h2, -⟩ := hJ _ _ _ h
      exact z_n8' h2) hyL_seatAt hiL_seatAt hpL_seatAt hsL_seatAt wkL_271 dL_law_1998 rfl rfl ⟨Nat.le_of_ble_eq_true rfl, Nat.le_of_ble_eq_true rfl, rfl⟩ rfl (Nat.zero_le _) (show 1 ≤ bc + 3 by omega) (show 6 ≤ bs + 18 by omega) (fun r S1 M1 h8 hP => ?_)
  obtain ⟨rfl, k, rfl, P2, hm, h2⟩ := hJ _ _ _ hP
  refine zr_istore (i := 6) (q := 2003) dL_law_2001 rfl (show 6 < 9 by decide) rfl ?_
  refine zr_aloadn (k := 2) (q := 2004) rfl dL_law_2003 rfl ?_
  refine zr_aloadn (k := 0) (q := 2005) rfl dL_law_2004 rfl ?_
  refine zr_iload (n := 0) (i := 5) (q := 2007) rfl dL_law_2005 rfl ?_
  refine zr_iconst (q := 2008) dL_law_2007 rfl (z_in_of rfl) ?_
  refine zr_iadd (q := 2009) dL_law_2008 rfl (fun _ _ => ⟨by omega, by omega⟩) ?_
  refine zr_sald (q := 2010) (fun _ _ h => h) (by omega) (by omega) dL_law_2009 rfl ?_
  refine zf_callV1 k517 hm mtX12_seatAt wiX12_seatAt weX12_seatAt wkL_273 (q := 2013) dL_law_2010 rfl rfl rfl rfl rfl rfl rfl (fun r S2 M2 h9 hP2 => ?_) (fun k3 S9 M9 hP2 => by
      obtain ⟨-, b, h9, -⟩ := h2 _ _ _ hP2
      exact (z_n8' h9).elim)
  obtain ⟨rfl, b, rfl, e1, e2, R2⟩ := h2 _ _ _ hP2
  refine zr_istore (i := 7) (q := 2015) dL_law_2013 rfl (show 7 < 9 by decide) rfl ?_
  exact tl_int (p := 2015) dL_law_2015 dL_law_2016 dL_law_2019 dL_law_2021 dL_law_2026 dL_law_2028 dL_law_2031 dL_law_2032 dL_law_2033 dL_law_2034 dL_law_2036 dL_law_2037 dL_law_2038 dL_law_2043 (by decide) e1 (fun c => (e2 c).1) (zr_room (zr_fg3 (kk M2 R2)) (show bc ≤ bc + 3 - 1 - 0 - 0 by omega) (show bs ≤ bs + 18 - 6 - 0 - 0 by omega))
theorem l_writeBallot (R9 : zRl M) (hi : 0 ≤ i ∧ i + 3 ≤ (L : Int)) (hL : L ≤ 1536) (kk : ∀ M', zRl M' → z_Ex (mL_law L xs) zF 2540 [(1, -98), (1, 1), (1, 517), (1, 529), (1, 530), (0, i), (9, 0), (9, 0), (9, 0)] [] M' bc bs Q) : z_Ex (mL_law L xs) zF 2046 [(1, -98), (1, 1), (1, 517), (1, 529), (1, 530), (0, i), (9, 0), (9, 0), (9, 0)] [] M (bc + 3) (bs + 18) Q := by
  obtain ⟨P, hW, hJ⟩ := jj_writeBallot (p0 := (xs (i + 1).toNat).toInt) R9
  refine zr_aloadn (k := 1) (q := 2047) rfl dL_law_2046 rfl ?_
  refine zr_aloadn (k := 0) (q := 2048) rfl dL_law_2047 rfl ?_
  refine zr_iload (n := 0) (i := 5) (q := 2050) rfl dL_law_2048 rfl ?_
  refine zr_iconst (q := 2051) dL_law_2050 rfl (z_in_of rfl) ?_
  refine zr_iadd (q := 2052) dL_law_2051 rfl (fun _ _ => ⟨by omega, by omega⟩) ?_
  refine zr_sald (q := 2053) (fun _ _ h => h) (by omega) (by omega) dL_law_2052 rfl ?_
  refine zr_aloadn (k := 3) (q := 2054) rfl dL_law_2053 rfl ?_
  refine zr_callSH (st := []) (as := [(1, 1), (0, (xs (i + 1).toNat).toInt), (1, 529)]) (n := 3) (q := 2057) hW (fun k S9 M9 h => by
      obtain ⟨-, k2, h2, -⟩ := hJ _ _ _ h
      exact z_n8' h2) hyL_writeBallot hiL_writeBallot hpL_writeBallot hsL_writeBallot wkL_274 dL_law_2054 rfl rfl ⟨Nat.le_of_ble_eq_true rfl, Nat.le_of_ble_eq_true rfl, rfl⟩ rfl (Nat.zero_le _) (show 1 ≤ bc + 3 by omega) (show 6 ≤ bs + 18 by omega) (fun r S1 M1 h8 hP => ?_)
  obtain ⟨rfl, k, rfl, P2, hm, h2⟩ := hJ _ _ _ hP
  refine zr_istore (i := 6) (q := 2059) dL_law_2057 rfl (show 6 < 9 by decide) rfl ?_
  refine zr_aloadn (k := 2) (q := 2060) rfl dL_law_2059 rfl ?_
  refine zr_aloadn (k := 0) (q := 2061) rfl dL_law_2060 rfl ?_
  refine zr_iload (n := 0) (i := 5) (q := 2063) rfl dL_law_2061 rfl ?_
  refine zr_iconst (q := 2064) dL_law_2063 rfl (z_in_of rfl) ?_
  refine zr_iadd (q := 2065) dL_law_2064 rfl (fun _ _ => ⟨by omega, by omega⟩) ?_
  refine zr_sald (q := 2066) (fun _ _ h => h) (by omega) (by omega) dL_law_2065 rfl ?_
  refine zf_callV1 k517 hm mtX12_writeBallot wiX12_writeBallot weX12_writeBallot wkL_276 (q := 2069) dL_law_2066 rfl rfl rfl rfl rfl rfl rfl (fun r S2 M2 h9 hP2 => ?_) (fun k3 S9 M9 hP2 => by
      obtain ⟨-, b, h9, -⟩ := h2 _ _ _ hP2
      exact (z_n8' h9).elim)
  obtain ⟨rfl, b, rfl, e1, e2, R2⟩ := h2 _ _ _ hP2
  refine zr_istore (i := 7) (q := 2071) dL_law_2069 rfl (show 7 < 9 by decide) rfl ?_
  exact tl_int (p := 2071) dL_law_2071 dL_law_2072 dL_law_2075 dL_law_2077 dL_law_2082 dL_law_2084 dL_law_2087 dL_law_2088 dL_law_2089 dL_law_2090 dL_law_2092 dL_law_2093 dL_law_2094 dL_law_2099 (by decide) e1 (fun c => (e2 c).1) (zr_room (zr_fg3 (kk M2 R2)) (show bc ≤ bc + 3 - 1 - 0 - 0 by omega) (show bs ≤ bs + 18 - 6 - 0 - 0 by omega))
theorem l_writeCount (R9 : zRl M) (hi : 0 ≤ i ∧ i + 3 ≤ (L : Int)) (hL : L ≤ 1536) (kk : ∀ M', zRl M' → z_Ex (mL_law L xs) zF 2540 [(1, -98), (1, 1), (1, 517), (1, 529), (1, 530), (0, i), (9, 0), (9, 0), (9, 0)] [] M' bc bs Q) : z_Ex (mL_law L xs) zF 2102 [(1, -98), (1, 1), (1, 517), (1, 529), (1, 530), (0, i), (9, 0), (9, 0), (9, 0)] [] M (bc + 3) (bs + 18) Q := by
  obtain ⟨P, hW, hJ⟩ := jj_writeCount R9
  refine zr_aloadn (k := 1) (q := 2103) rfl dL_law_2102 rfl ?_
  refine zf_callV0 k1 hW mtX11_writeCount wiX11_writeCount weX11_writeCount wkL_277 (q := 2106) dL_law_2103 rfl rfl rfl rfl rfl rfl (by simp only [Bool.and_eq_true]; exact ⟨Nat.ble_eq.mpr (show 0 ≤ bc + 3 by omega), Nat.ble_eq.mpr (show 0 ≤ bs + 18 by omega)⟩) (fun r S1 M1 h8 hP => ?_) (fun k3 S9 M9 hP => by
      obtain ⟨-, k2, h2, -⟩ := hJ _ _ _ hP
      exact (z_n8' h2).elim)
  obtain ⟨rfl, v, rfl, P2, hm, h2⟩ := hJ _ _ _ hP
  refine zr_aloadn (k := 2) (q := 2107) rfl dL_law_2106 rfl ?_
  refine zf_callV0 k517 hm mtX12_writeCount wiX12_writeCount weX12_writeCount wkL_280 (q := 2110) dL_law_2107 rfl rfl rfl rfl rfl rfl rfl (fun r S2 M2 h9 hP2 => ?_) (fun k3 S9 M9 hP2 => by
      exact (z_n8' (h2 _ _ _ hP2).2.1).elim)
  obtain ⟨rfl, rfl, R2⟩ := h2 _ _ _ hP2
  exact zr_icmp_eq (q := 2540) (q2 := 2113) dL_law_2110 (by decide) rfl (fun _ => zr_room (kk M2 R2) (show bc ≤ bc + 3 - 0 - 0 by omega) (show bs ≤ bs + 18 - 0 - 0 by omega)) (fun c => absurd rfl c)
theorem l_lineAt (R9 : zRl M) (hi : 0 ≤ i ∧ i + 3 ≤ (L : Int)) (hL : L ≤ 1536) (kk : ∀ M', zRl M' → z_Ex (mL_law L xs) zF 2540 [(1, -98), (1, 1), (1, 517), (1, 529), (1, 530), (0, i), (9, 0), (9, 0), (9, 0)] [] M' bc bs Q) : z_Ex (mL_law L xs) zF 2115 [(1, -98), (1, 1), (1, 517), (1, 529), (1, 530), (0, i), (9, 0), (9, 0), (9, 0)] [] M (bc + 3) (bs + 18) Q := by
  obtain ⟨P, hW, hJ⟩ := jj_lineAt (p0 := (xs (i + 1).toNat).toInt) R9
  refine zr_aloadn (k := 1) (q := 2116) rfl dL_law_2115 rfl ?_
  refine zr_aloadn (k := 0) (q := 2117) rfl dL_law_2116 rfl ?_
  refine zr_iload (n := 0) (i := 5) (q := 2119) rfl dL_law_2117 rfl ?_
  refine zr_iconst (q := 2120) dL_law_2119 rfl (z_in_of rfl) ?_
  refine zr_iadd (q := 2121) dL_law_2120 rfl (fun _ _ => ⟨by omega, by omega⟩) ?_
  refine zr_sald (q := 2122) (fun _ _ h => h) (by omega) (by omega) dL_law_2121 rfl ?_
  refine zr_aloadn (k := 3) (q := 2123) rfl dL_law_2122 rfl ?_
  refine zr_callSH (st := []) (as := [(1, 1), (0, (xs (i + 1).toNat).toInt), (1, 529)]) (n := 3) (q := 2126) hW (fun k S9 M9 h => by
      obtain ⟨-, k2, h2, -⟩ := hJ _ _ _ h
      exact z_n8' h2) hyL_lineAt hiL_lineAt hpL_lineAt hsL_lineAt wkL_281 dL_law_2123 rfl rfl ⟨Nat.le_of_ble_eq_true rfl, Nat.le_of_ble_eq_true rfl, rfl⟩ rfl (Nat.zero_le _) (show 1 ≤ bc + 3 by omega) (show 6 ≤ bs + 18 by omega) (fun r S1 M1 h8 hP => ?_)
  obtain ⟨rfl, k, rfl, P2, hm, h2⟩ := hJ _ _ _ hP
  refine zr_istore (i := 6) (q := 2128) dL_law_2126 rfl (show 6 < 9 by decide) rfl ?_
  refine zr_aloadn (k := 2) (q := 2129) rfl dL_law_2128 rfl ?_
  refine zr_aloadn (k := 0) (q := 2130) rfl dL_law_2129 rfl ?_
  refine zr_iload (n := 0) (i := 5) (q := 2132) rfl dL_law_2130 rfl ?_
  refine zr_iconst (q := 2133) dL_law_2132 rfl (z_in_of rfl) ?_
  refine zr_iadd (q := 2134) dL_law_2133 rfl (fun _ _ => ⟨by omega, by omega⟩) ?_
  refine zr_sald (q := 2135) (fun _ _ h => h) (by omega) (by omega) dL_law_2134 rfl ?_
  refine zf_callV1 k517 hm mtX12_lineAt wiX12_lineAt weX12_lineAt wkL_283 (q := 2138) dL_law_2135 rfl rfl rfl rfl rfl rfl rfl (fun r S2 M2 h9 hP2 => ?_) (fun k3 S9 M9 hP2 => by
      obtain ⟨-, b, h9, -⟩ := h2 _ _ _ hP2
      exact (z_n8' h9).elim)
  obtain ⟨rfl, b, rfl, e1, e2, R2⟩ := h2 _ _ _ hP2
  refine zr_istore (i := 7) (q := 2140) dL_law_2138 rfl (show 7 < 9 by decide) rfl ?_
  exact tl_int (p := 2140) dL_law_2140 dL_law_2141 dL_law_2144 dL_law_2146 dL_law_2151 dL_law_2153 dL_law_2156 dL_law_2157 dL_law_2158 dL_law_2159 dL_law_2161 dL_law_2162 dL_law_2163 dL_law_2168 (by decide) e1 (fun c => (e2 c).1) (zr_room (zr_fg3 (kk M2 R2)) (show bc ≤ bc + 3 - 1 - 0 - 0 by omega) (show bs ≤ bs + 18 - 6 - 0 - 0 by omega))
theorem l_meanRanks (R9 : zRl M) (hi : 0 ≤ i ∧ i + 3 ≤ (L : Int)) (hL : L ≤ 1536) (kk : ∀ M', zRl M' → z_Ex (mL_law L xs) zF 2540 [(1, -98), (1, 1), (1, 517), (1, 529), (1, 530), (0, i), (9, 0), (9, 0), (9, 0)] [] M' bc bs Q) : z_Ex (mL_law L xs) zF 2171 [(1, -98), (1, 1), (1, 517), (1, 529), (1, 530), (0, i), (9, 0), (9, 0), (9, 0)] [] M (bc + 3) (bs + 18) Q := by
  obtain ⟨P, hW, hJ⟩ := jj_meanRanks R9
  refine zr_aloadn (k := 1) (q := 2172) rfl dL_law_2171 rfl ?_
  refine zr_aload (i := 4) (q := 2174) rfl dL_law_2172 rfl ?_
  refine zr_callSH (st := []) (as := [(1, 1), (1, 530)]) (n := 2) (q := 2177) hW (fun k S9 M9 h => by
      obtain ⟨-, k2, h2, -⟩ := hJ _ _ _ h
      exact z_n8' h2) hyL_meanRanks hiL_meanRanks hpL_meanRanks hsL_meanRanks wkL_284 dL_law_2174 rfl rfl ⟨Nat.le_of_ble_eq_true rfl, Nat.le_of_ble_eq_true rfl, rfl⟩ rfl (Nat.zero_le _) (show 1 ≤ bc + 3 by omega) (show 6 ≤ bs + 18 by omega) (fun r S1 M1 h8 hP => ?_)
  obtain ⟨rfl, k, rfl, P2, hm, h2⟩ := hJ _ _ _ hP
  refine zr_istore (i := 6) (q := 2179) dL_law_2177 rfl (show 6 < 9 by decide) rfl ?_
  refine zr_aloadn (k := 2) (q := 2180) rfl dL_law_2179 rfl ?_
  refine zf_callV0 k517 hm mtX12_meanRanks wiX12_meanRanks weX12_meanRanks wkL_286 (q := 2183) dL_law_2180 rfl rfl rfl rfl rfl rfl rfl (fun r S2 M2 h9 hP2 => ?_) (fun k3 S9 M9 hP2 => by
      obtain ⟨-, b, h9, -⟩ := h2 _ _ _ hP2
      exact (z_n84 h9).elim)
  obtain ⟨rfl, b, rfl, e1, e2, R2⟩ := h2 _ _ _ hP2
  refine zr_dstore (i := 7) (q := 2185) rfl dL_law_2183 rfl (show 7 + 1 < 9 by decide) rfl ?_
  exact tl_dbl (p := 2185) dL_law_2185 dL_law_2186 dL_law_2189 dL_law_2191 dL_law_2196 dL_law_2198 dL_law_2201 dL_law_2203 dL_law_2204 dL_law_2205 dL_law_2207 dL_law_2208 dL_law_2233 (by decide) e1 e2 (zr_room (zr_fg3 (kk M2 R2)) (show bc ≤ bc + 3 - 1 - 0 - 0 by omega) (show bs ≤ bs + 18 - 6 - 0 - 0 by omega))
theorem l_isConsistent (R9 : zRl M) (hi : 0 ≤ i ∧ i + 3 ≤ (L : Int)) (hL : L ≤ 1536) (kk : ∀ M', zRl M' → z_Ex (mL_law L xs) zF 2540 [(1, -98), (1, 1), (1, 517), (1, 529), (1, 530), (0, i), (9, 0), (9, 0), (9, 0)] [] M' bc bs Q) : z_Ex (mL_law L xs) zF 2236 [(1, -98), (1, 1), (1, 517), (1, 529), (1, 530), (0, i), (9, 0), (9, 0), (9, 0)] [] M (bc + 3) (bs + 18) Q := by
  obtain ⟨P, hW, hJ⟩ := jj_isConsistent R9
  refine zr_aloadn (k := 1) (q := 2237) rfl dL_law_2236 rfl ?_
  refine zf_callV0 k1 hW mtX11_isConsistent wiX11_isConsistent weX11_isConsistent wkL_287 (q := 2240) dL_law_2237 rfl rfl rfl rfl rfl rfl (by simp only [Bool.and_eq_true]; exact ⟨Nat.ble_eq.mpr (show 0 ≤ bc + 3 by omega), Nat.ble_eq.mpr (show 0 ≤ bs + 18 by omega)⟩) (fun r S1 M1 h8 hP => ?_) (fun k3 S9 M9 hP => by
      obtain ⟨-, k2, h2, -⟩ := hJ _ _ _ hP
      exact (z_n8' h2).elim)
  obtain ⟨rfl, v, rfl, P2, hm, h2⟩ := hJ _ _ _ hP
  refine zr_aloadn (k := 2) (q := 2241) rfl dL_law_2240 rfl ?_
  refine zf_callV0 k517 hm mtX12_isConsistent wiX12_isConsistent weX12_isConsistent wkL_291 (q := 2244) dL_law_2241 rfl rfl rfl rfl rfl rfl rfl (fun r S2 M2 h9 hP2 => ?_) (fun k3 S9 M9 hP2 => by
      exact (z_n8' (h2 _ _ _ hP2).2.1).elim)
  obtain ⟨rfl, rfl, R2⟩ := h2 _ _ _ hP2
  exact zr_icmp_eq (q := 2540) (q2 := 2247) dL_law_2244 (by decide) rfl (fun _ => zr_room (kk M2 R2) (show bc ≤ bc + 3 - 0 - 0 by omega) (show bs ≤ bs + 18 - 0 - 0 by omega)) (fun c => absurd rfl c)
theorem l_type (R9 : zRl M) (hi : 0 ≤ i ∧ i + 3 ≤ (L : Int)) (hL : L ≤ 1536) (kk : ∀ M', zRl M' → z_Ex (mL_law L xs) zF 2540 [(1, -98), (1, 1), (1, 517), (1, 529), (1, 530), (0, i), (9, 0), (9, 0), (9, 0)] [] M' bc bs Q) : z_Ex (mL_law L xs) zF 2249 [(1, -98), (1, 1), (1, 517), (1, 529), (1, 530), (0, i), (9, 0), (9, 0), (9, 0)] [] M (bc + 3) (bs + 18) Q := by
  obtain ⟨P, hW, hJ⟩ := jj_type (x := (xs (i + 1).toNat).toInt % 65536) R9
  refine zr_aloadn (k := 1) (q := 2250) rfl dL_law_2249 rfl ?_
  refine zr_aloadn (k := 0) (q := 2251) rfl dL_law_2250 rfl ?_
  refine zr_iload (n := 0) (i := 5) (q := 2253) rfl dL_law_2251 rfl ?_
  refine zr_iconst (q := 2254) dL_law_2253 rfl (z_in_of rfl) ?_
  refine zr_iadd (q := 2255) dL_law_2254 rfl (fun _ _ => ⟨by omega, by omega⟩) ?_
  refine zr_sald (q := 2256) (fun _ _ h => h) (by omega) (by omega) dL_law_2255 rfl ?_
  refine zr_i2c (q := 2257) dL_law_2256 rfl ?_
  refine zr_aloadn (k := 3) (q := 2258) rfl dL_law_2257 rfl ?_
  refine zr_callSH (st := []) (as := [(1, 1), (0, (xs (i + 1).toNat).toInt % 65536), (1, 529)]) (n := 3) (q := 2261) hW (fun k S9 M9 h => by
      obtain ⟨-, k2, h2, -⟩ := hJ _ _ _ h
      exact z_n8' h2) hyL_type hiL_type hpL_type hsL_type wkL_292 dL_law_2258 rfl rfl ⟨Nat.le_of_ble_eq_true rfl, Nat.le_of_ble_eq_true rfl, rfl⟩ rfl (Nat.zero_le _) (show 1 ≤ bc + 3 by omega) (show 6 ≤ bs + 18 by omega) (fun r S1 M1 h8 hP => ?_)
  obtain ⟨rfl, k, rfl, P2, hm, h2⟩ := hJ _ _ _ hP
  refine zr_istore (i := 6) (q := 2263) dL_law_2261 rfl (show 6 < 9 by decide) rfl ?_
  refine zr_aloadn (k := 2) (q := 2264) rfl dL_law_2263 rfl ?_
  refine zr_aloadn (k := 0) (q := 2265) rfl dL_law_2264 rfl ?_
  refine zr_iload (n := 0) (i := 5) (q := 2267) rfl dL_law_2265 rfl ?_
  refine zr_iconst (q := 2268) dL_law_2267 rfl (z_in_of rfl) ?_
  refine zr_iadd (q := 2269) dL_law_2268 rfl (fun _ _ => ⟨by omega, by omega⟩) ?_
  refine zr_sald (q := 2270) (fun _ _ h => h) (by omega) (by omega) dL_law_2269 rfl ?_
  refine zr_i2c (q := 2271) dL_law_2270 rfl ?_
  refine zf_callV1 k517 hm mtX12_type wiX12_type weX12_type wkL_295 (q := 2274) dL_law_2271 rfl rfl rfl rfl rfl rfl rfl (fun r S2 M2 h9 hP2 => ?_) (fun k3 S9 M9 hP2 => by
      obtain ⟨-, b, h9, -⟩ := h2 _ _ _ hP2
      exact (z_n8' h9).elim)
  obtain ⟨rfl, b, rfl, e1, e2, R2⟩ := h2 _ _ _ hP2
  refine zr_istore (i := 7) (q := 2276) dL_law_2274 rfl (show 7 < 9 by decide) rfl ?_
  exact tl_int (p := 2276) dL_law_2276 dL_law_2277 dL_law_2280 dL_law_2282 dL_law_2287 dL_law_2289 dL_law_2292 dL_law_2293 dL_law_2294 dL_law_2295 dL_law_2297 dL_law_2298 dL_law_2299 dL_law_2304 (by decide) e1 (fun c => (e2 c).1) (zr_room (zr_fg3 (kk M2 R2)) (show bc ≤ bc + 3 - 1 - 0 - 0 by omega) (show bs ≤ bs + 18 - 6 - 0 - 0 by omega))
theorem l_execute (R9 : zRl M) (hi : 0 ≤ i ∧ i + 3 ≤ (L : Int)) (hL : L ≤ 1536) (kk : ∀ M', zRl M' → z_Ex (mL_law L xs) zF 2540 [(1, -98), (1, 1), (1, 517), (1, 529), (1, 530), (0, i), (9, 0), (9, 0), (9, 0)] [] M' bc bs Q) : z_Ex (mL_law L xs) zF 2307 [(1, -98), (1, 1), (1, 517), (1, 529), (1, 530), (0, i), (9, 0), (9, 0), (9, 0)] [] M (bc + 3) (bs + 18) Q := by
  obtain ⟨P, hW, hJ⟩ := jj_execute R9
  refine zr_aloadn (k := 1) (q := 2308) rfl dL_law_2307 rfl ?_
  refine zr_aloadn (k := 3) (q := 2309) rfl dL_law_2308 rfl ?_
  refine zr_callSH (st := []) (as := [(1, 1), (1, 529)]) (n := 2) (q := 2312) hW (fun k S9 M9 h => by
      obtain ⟨-, k2, h2, -⟩ := hJ _ _ _ h
      exact z_n8' h2) hyL_execute hiL_execute hpL_execute hsL_execute wkL_296 dL_law_2309 rfl rfl ⟨Nat.le_of_ble_eq_true rfl, Nat.le_of_ble_eq_true rfl, rfl⟩ rfl (Nat.zero_le _) (show 1 ≤ bc + 3 by omega) (show 6 ≤ bs + 18 by omega) (fun r S1 M1 h8 hP => ?_)
  obtain ⟨rfl, k, rfl, P2, hm, h2⟩ := hJ _ _ _ hP
  refine zr_istore (i := 6) (q := 2314) dL_law_2312 rfl (show 6 < 9 by decide) rfl ?_
  refine zr_aloadn (k := 2) (q := 2315) rfl dL_law_2314 rfl ?_
  refine zf_callV0 k517 hm mtX12_execute wiX12_execute weX12_execute wkL_298 (q := 2318) dL_law_2315 rfl rfl rfl rfl rfl rfl rfl (fun r S2 M2 h9 hP2 => ?_) (fun k3 S9 M9 hP2 => by
      obtain ⟨-, b, h9, -⟩ := h2 _ _ _ hP2
      exact (z_n8' h9).elim)
  obtain ⟨rfl, b, rfl, e1, e2, R2⟩ := h2 _ _ _ hP2
  refine zr_istore (i := 7) (q := 2320) dL_law_2318 rfl (show 7 < 9 by decide) rfl ?_
  exact tl_int (p := 2320) dL_law_2320 dL_law_2321 dL_law_2324 dL_law_2326 dL_law_2331 dL_law_2333 dL_law_2336 dL_law_2337 dL_law_2338 dL_law_2339 dL_law_2341 dL_law_2342 dL_law_2343 dL_law_2348 (by decide) e1 (fun c => (e2 c).1) (zr_room (zr_fg3 (kk M2 R2)) (show bc ≤ bc + 3 - 1 - 0 - 0 by omega) (show bs ≤ bs + 18 - 6 - 0 - 0 by omega))
theorem l_errorPosition (R9 : zRl M) (hi : 0 ≤ i ∧ i + 3 ≤ (L : Int)) (hL : L ≤ 1536) (kk : ∀ M', zRl M' → z_Ex (mL_law L xs) zF 2540 [(1, -98), (1, 1), (1, 517), (1, 529), (1, 530), (0, i), (9, 0), (9, 0), (9, 0)] [] M' bc bs Q) : z_Ex (mL_law L xs) zF 2351 [(1, -98), (1, 1), (1, 517), (1, 529), (1, 530), (0, i), (9, 0), (9, 0), (9, 0)] [] M (bc + 3) (bs + 18) Q := by
  obtain ⟨P, hW, hJ⟩ := jj_errorPosition R9
  refine zr_aloadn (k := 1) (q := 2352) rfl dL_law_2351 rfl ?_
  refine zr_aloadn (k := 3) (q := 2353) rfl dL_law_2352 rfl ?_
  refine zr_callSH (st := []) (as := [(1, 1), (1, 529)]) (n := 2) (q := 2356) hW (fun k S9 M9 h => by
      obtain ⟨-, k2, h2, -⟩ := hJ _ _ _ h
      exact z_n8' h2) hyL_errorPosition hiL_errorPosition hpL_errorPosition hsL_errorPosition wkL_299 dL_law_2353 rfl rfl ⟨Nat.le_of_ble_eq_true rfl, Nat.le_of_ble_eq_true rfl, rfl⟩ rfl (Nat.zero_le _) (show 1 ≤ bc + 3 by omega) (show 6 ≤ bs + 18 by omega) (fun r S1 M1 h8 hP => ?_)
  obtain ⟨rfl, k, rfl, P2, hm, h2⟩ := hJ _ _ _ hP
  refine zr_istore (i := 6) (q := 2358) dL_law_2356 rfl (show 6 < 9 by decide) rfl ?_
  refine zr_aloadn (k := 2) (q := 2359) rfl dL_law_2358 rfl ?_
  refine zf_callV0 k517 hm mtX12_errorPosition wiX12_errorPosition weX12_errorPosition wkL_301 (q := 2362) dL_law_2359 rfl rfl rfl rfl rfl rfl rfl (fun r S2 M2 h9 hP2 => ?_) (fun k3 S9 M9 hP2 => by
      obtain ⟨-, b, h9, -⟩ := h2 _ _ _ hP2
      exact (z_n8' h9).elim)
  obtain ⟨rfl, b, rfl, e1, e2, R2⟩ := h2 _ _ _ hP2
  refine zr_istore (i := 7) (q := 2364) dL_law_2362 rfl (show 7 < 9 by decide) rfl ?_
  exact tl_int (p := 2364) dL_law_2364 dL_law_2365 dL_law_2368 dL_law_2370 dL_law_2375 dL_law_2377 dL_law_2380 dL_law_2381 dL_law_2382 dL_law_2383 dL_law_2385 dL_law_2386 dL_law_2387 dL_law_2392 (by decide) e1 (fun c => (e2 c).1) (zr_room (zr_fg3 (kk M2 R2)) (show bc ≤ bc + 3 - 1 - 0 - 0 by omega) (show bs ≤ bs + 18 - 6 - 0 - 0 by omega))
theorem l_failedCommand (R9 : zRl M) (hi : 0 ≤ i ∧ i + 3 ≤ (L : Int)) (hL : L ≤ 1536) (kk : ∀ M', zRl M' → z_Ex (mL_law L xs) zF 2540 [(1, -98), (1, 1), (1, 517), (1, 529), (1, 530), (0, i), (9, 0), (9, 0), (9, 0)] [] M' bc bs Q) : z_Ex (mL_law L xs) zF 2395 [(1, -98), (1, 1), (1, 517), (1, 529), (1, 530), (0, i), (9, 0), (9, 0), (9, 0)] [] M (bc + 3) (bs + 18) Q := by
  obtain ⟨P, hW, hJ⟩ := jj_failedCommand R9
  refine zr_aloadn (k := 1) (q := 2396) rfl dL_law_2395 rfl ?_
  refine zr_aloadn (k := 3) (q := 2397) rfl dL_law_2396 rfl ?_
  refine zr_callSH (st := []) (as := [(1, 1), (1, 529)]) (n := 2) (q := 2400) hW (fun k S9 M9 h => by
      obtain ⟨-, k2, h2, -⟩ := hJ _ _ _ h
      exact z_n8' h2) hyL_failedCommand hiL_failedCommand hpL_failedCommand hsL_failedCommand wkL_302 dL_law_2397 rfl rfl ⟨Nat.le_of_ble_eq_true rfl, Nat.le_of_ble_eq_true rfl, rfl⟩ rfl (Nat.zero_le _) (show 1 ≤ bc + 3 by omega) (show 6 ≤ bs + 18 by omega) (fun r S1 M1 h8 hP => ?_)
  obtain ⟨rfl, k, rfl, P2, hm, h2⟩ := hJ _ _ _ hP
  refine zr_istore (i := 6) (q := 2402) dL_law_2400 rfl (show 6 < 9 by decide) rfl ?_
  refine zr_aloadn (k := 2) (q := 2403) rfl dL_law_2402 rfl ?_
  refine zf_callV0 k517 hm mtX12_failedCommand wiX12_failedCommand weX12_failedCommand wkL_304 (q := 2406) dL_law_2403 rfl rfl rfl rfl rfl rfl rfl (fun r S2 M2 h9 hP2 => ?_) (fun k3 S9 M9 hP2 => by
      obtain ⟨-, b, h9, -⟩ := h2 _ _ _ hP2
      exact (z_n8' h9).elim)
  obtain ⟨rfl, b, rfl, e1, e2, R2⟩ := h2 _ _ _ hP2
  refine zr_istore (i := 7) (q := 2408) dL_law_2406 rfl (show 7 < 9 by decide) rfl ?_
  exact tl_int (p := 2408) dL_law_2408 dL_law_2409 dL_law_2412 dL_law_2414 dL_law_2419 dL_law_2421 dL_law_2424 dL_law_2425 dL_law_2426 dL_law_2427 dL_law_2429 dL_law_2430 dL_law_2431 dL_law_2436 (by decide) e1 (fun c => (e2 c).1) (zr_room (zr_fg3 (kk M2 R2)) (show bc ≤ bc + 3 - 1 - 0 - 0 by omega) (show bs ≤ bs + 18 - 6 - 0 - 0 by omega))
theorem l_undo (R9 : zRl M) (hi : 0 ≤ i ∧ i + 3 ≤ (L : Int)) (hL : L ≤ 1536) (kk : ∀ M', zRl M' → z_Ex (mL_law L xs) zF 2540 [(1, -98), (1, 1), (1, 517), (1, 529), (1, 530), (0, i), (9, 0), (9, 0), (9, 0)] [] M' bc bs Q) : z_Ex (mL_law L xs) zF 2439 [(1, -98), (1, 1), (1, 517), (1, 529), (1, 530), (0, i), (9, 0), (9, 0), (9, 0)] [] M (bc + 3) (bs + 18) Q := by
  obtain ⟨P, hW, hJ⟩ := jj_undo R9
  refine zr_aloadn (k := 1) (q := 2440) rfl dL_law_2439 rfl ?_
  refine zr_aloadn (k := 3) (q := 2441) rfl dL_law_2440 rfl ?_
  refine zr_callSH (st := []) (as := [(1, 1), (1, 529)]) (n := 2) (q := 2444) hW (fun k S9 M9 h => by
      obtain ⟨-, k2, h2, -⟩ := hJ _ _ _ h
      exact z_n8' h2) hyL_undo hiL_undo hpL_undo hsL_undo wkL_305 dL_law_2441 rfl rfl ⟨Nat.le_of_ble_eq_true rfl, Nat.le_of_ble_eq_true rfl, rfl⟩ rfl (Nat.zero_le _) (show 1 ≤ bc + 3 by omega) (show 6 ≤ bs + 18 by omega) (fun r S1 M1 h8 hP => ?_)
  obtain ⟨rfl, k, rfl, P2, hm, h2⟩ := hJ _ _ _ hP
  refine zr_istore (i := 6) (q := 2446) dL_law_2444 rfl (show 6 < 9 by decide) rfl ?_
  refine zr_aloadn (k := 2) (q := 2447) rfl dL_law_2446 rfl ?_
  refine zf_callV0 k517 hm mtX12_undo wiX12_undo weX12_undo wkL_307 (q := 2450) dL_law_2447 rfl rfl rfl rfl rfl rfl rfl (fun r S2 M2 h9 hP2 => ?_) (fun k3 S9 M9 hP2 => by
      obtain ⟨-, b, h9, -⟩ := h2 _ _ _ hP2
      exact (z_n8' h9).elim)
  obtain ⟨rfl, b, rfl, e1, e2, R2⟩ := h2 _ _ _ hP2
  refine zr_istore (i := 7) (q := 2452) dL_law_2450 rfl (show 7 < 9 by decide) rfl ?_
  exact tl_int (p := 2452) dL_law_2452 dL_law_2453 dL_law_2456 dL_law_2458 dL_law_2463 dL_law_2465 dL_law_2468 dL_law_2469 dL_law_2470 dL_law_2471 dL_law_2473 dL_law_2474 dL_law_2475 dL_law_2480 (by decide) e1 (fun c => (e2 c).1) (zr_room (zr_fg3 (kk M2 R2)) (show bc ≤ bc + 3 - 1 - 0 - 0 by omega) (show bs ≤ bs + 18 - 6 - 0 - 0 by omega))
theorem l_save (R9 : zRl M) (hi : 0 ≤ i ∧ i + 3 ≤ (L : Int)) (hL : L ≤ 1536) (kk : ∀ M', zRl M' → z_Ex (mL_law L xs) zF 2540 [(1, -98), (1, 1), (1, 517), (1, 529), (1, 530), (0, i), (9, 0), (9, 0), (9, 0)] [] M' bc bs Q) : z_Ex (mL_law L xs) zF 2483 [(1, -98), (1, 1), (1, 517), (1, 529), (1, 530), (0, i), (9, 0), (9, 0), (9, 0)] [] M (bc + 3) (bs + 18) Q := by
  obtain ⟨P, hW, hJ⟩ := jj_save R9
  refine zr_aloadn (k := 1) (q := 2484) rfl dL_law_2483 rfl ?_
  refine zf_callV0 k1 hW mtX11_save wiX11_save weX11_save wkL_308 (q := 2487) dL_law_2484 rfl rfl rfl rfl rfl rfl (by simp only [Bool.and_eq_true]; exact ⟨Nat.ble_eq.mpr (show 0 ≤ bc + 3 by omega), Nat.ble_eq.mpr (show 0 ≤ bs + 18 by omega)⟩) (fun r S1 M1 h8 hP => ?_) (fun k3 S9 M9 hP => by
      obtain ⟨-, k2, h2, -⟩ := hJ _ _ _ hP
      exact (z_n8' h2).elim)
  obtain ⟨rfl, v, rfl, P2, hm, h2⟩ := hJ _ _ _ hP
  refine zr_aloadn (k := 2) (q := 2488) rfl dL_law_2487 rfl ?_
  refine zf_callV0 k517 hm mtX12_save wiX12_save weX12_save wkL_311 (q := 2491) dL_law_2488 rfl rfl rfl rfl rfl rfl rfl (fun r S2 M2 h9 hP2 => ?_) (fun k3 S9 M9 hP2 => by
      exact (z_n8' (h2 _ _ _ hP2).2.1).elim)
  obtain ⟨rfl, rfl, R2⟩ := h2 _ _ _ hP2
  exact zr_icmp_eq (q := 2540) (q2 := 2494) dL_law_2491 (by decide) rfl (fun _ => zr_room (kk M2 R2) (show bc ≤ bc + 3 - 0 - 0 by omega) (show bs ≤ bs + 18 - 0 - 0 by omega)) (fun c => absurd rfl c)
theorem l_restore (R9 : zRl M) (hi : 0 ≤ i ∧ i + 3 ≤ (L : Int)) (hL : L ≤ 1536) (kk : ∀ M', zRl M' → z_Ex (mL_law L xs) zF 2540 [(1, -98), (1, 1), (1, 517), (1, 529), (1, 530), (0, i), (9, 0), (9, 0), (9, 0)] [] M' bc bs Q) : z_Ex (mL_law L xs) zF 2496 [(1, -98), (1, 1), (1, 517), (1, 529), (1, 530), (0, i), (9, 0), (9, 0), (9, 0)] [] M (bc + 3) (bs + 18) Q := by
  obtain ⟨P, hW, hJ⟩ := jj_restore R9
  refine zr_aloadn (k := 1) (q := 2497) rfl dL_law_2496 rfl ?_
  refine zr_aloadn (k := 3) (q := 2498) rfl dL_law_2497 rfl ?_
  refine zr_callSH (st := []) (as := [(1, 1), (1, 529)]) (n := 2) (q := 2501) hW (fun k S9 M9 h => by
      obtain ⟨-, k2, h2, -⟩ := hJ _ _ _ h
      exact z_n8' h2) hyL_restore hiL_restore hpL_restore hsL_restore wkL_312 dL_law_2498 rfl rfl ⟨Nat.le_of_ble_eq_true rfl, Nat.le_of_ble_eq_true rfl, rfl⟩ rfl (Nat.zero_le _) (show 1 ≤ bc + 3 by omega) (show 6 ≤ bs + 18 by omega) (fun r S1 M1 h8 hP => ?_)
  obtain ⟨rfl, k, rfl, P2, hm, h2⟩ := hJ _ _ _ hP
  refine zr_istore (i := 6) (q := 2503) dL_law_2501 rfl (show 6 < 9 by decide) rfl ?_
  refine zr_aloadn (k := 2) (q := 2504) rfl dL_law_2503 rfl ?_
  refine zf_callV0 k517 hm mtX12_restore wiX12_restore weX12_restore wkL_314 (q := 2507) dL_law_2504 rfl rfl rfl rfl rfl rfl rfl (fun r S2 M2 h9 hP2 => ?_) (fun k3 S9 M9 hP2 => by
      obtain ⟨-, b, h9, -⟩ := h2 _ _ _ hP2
      exact (z_n8' h9).elim)
  obtain ⟨rfl, b, rfl, e1, e2, R2⟩ := h2 _ _ _ hP2
  refine zr_istore (i := 7) (q := 2509) dL_law_2507 rfl (show 7 < 9 by decide) rfl ?_
  exact tl_int (p := 2509) dL_law_2509 dL_law_2510 dL_law_2513 dL_law_2515 dL_law_2520 dL_law_2522 dL_law_2525 dL_law_2526 dL_law_2527 dL_law_2528 dL_law_2530 dL_law_2531 dL_law_2532 dL_law_2537 (by decide) e1 (fun c => (e2 c).1) (zr_room (zr_fg3 (kk M2 R2)) (show bc ≤ bc + 3 - 1 - 0 - 0 by omega) (show bs ≤ bs + 18 - 6 - 0 - 0 by omega))
end ZLC
