/-! dep: 93 86 -/
/-! ===== printed by gen/specs/gen94.py: the law ===== -/
theorem nwL_8 : z_New "WindElectionLaw" 8 8 12 := ⟨by decide, RX11, TX11, tyX11, rfl, z_all_in (i := 77) (by decide +kernel) (by decide +kernel), z_all_in (i := 78) (by decide +kernel) (by decide +kernel), z_all_in (i := 48) (by decide +kernel) (by decide +kernel), u_inX11, tyX11_ok, by intro k hk; rcases (show k = 0 ∨ k = 1 ∨ k = 2 ∨ k = 3 ∨ k = 4 ∨ k = 5 ∨ k = 6 ∨ k = 7 ∨ k = 8 ∨ k = 9 ∨ k = 10 ∨ k = 11 by omega) with rfl | rfl | rfl | rfl | rfl | rfl | rfl | rfl | rfl | rfl | rfl | rfl <;> exact ⟨_, rfl, fun _ => rfl⟩⟩
theorem nwL_143 : z_New "WindElectionLaw" 143 9 24 := ⟨by decide, RX12, TX12, tyX12, rfl, z_all_in (i := 1225) (by decide +kernel) (by decide +kernel), z_all_in (i := 1226) (by decide +kernel) (by decide +kernel), z_all_in (i := 59) (by decide +kernel) (by decide +kernel), u_inX12, tyX12_ok, by intro k hk; rcases (show k = 0 ∨ k = 1 ∨ k = 2 ∨ k = 3 ∨ k = 4 ∨ k = 5 ∨ k = 6 ∨ k = 7 ∨ k = 8 ∨ k = 9 ∨ k = 10 ∨ k = 11 ∨ k = 12 ∨ k = 13 ∨ k = 14 ∨ k = 15 ∨ k = 16 ∨ k = 17 ∨ k = 18 ∨ k = 19 ∨ k = 20 ∨ k = 21 ∨ k = 22 ∨ k = 23 by omega) with rfl | rfl | rfl | rfl | rfl | rfl | rfl | rfl | rfl | rfl | rfl | rfl | rfl | rfl | rfl | rfl | rfl | rfl | rfl | rfl | rfl | rfl | rfl | rfl <;> exact ⟨_, rfl, fun _ => rfl⟩⟩
theorem wkL_142 : Cond.methodLink "WindElectionLaw" 142 mX11_init.1 ∈ z_all := z_all_in (i := 79) (by decide +kernel) (by decide +kernel)
theorem wkL_145 : Cond.methodLink "WindElectionLaw" 145 mX12_init.1 ∈ z_all := z_all_in (i := 1227) (by decide +kernel) (by decide +kernel)
section ZLAW
variable {L : Nat} {xs : Nat → Int32} {i : Int} {M : zM} {bc bs : Nat} {Q : zV → zS → zM → Prop}
/-- one call -/
theorem law_call (R9 : zRl M) (hi : 0 ≤ i ∧ i + 3 ≤ (L : Int)) (hL : L ≤ 1536) (kk : ∀ M', zRl M' → z_Ex (mL_law L xs) zF 2540 [(1, -98), (1, 1), (1, 517), (1, 529), (1, 530), (0, i), (9, 0), (9, 0), (9, 0)] [] M' bc bs Q) : z_Ex (mL_law L xs) zF 37 [(1, -98), (1, 1), (1, 517), (1, 529), (1, 530), (0, i), (9, 0), (9, 0), (9, 0)] [] M (bc + 3) (bs + 18) Q := by
  refine zr_aloadn (k := 0) (q := 38) rfl dL_law_37 rfl ?_
  refine zr_iload (n := 0) (i := 5) (q := 40) rfl dL_law_38 rfl ?_
  refine zr_sald (q := 41) (fun _ _ h => h) (by omega) (by omega) dL_law_40 rfl ?_
  refine zr_bipush (n := 63) (q := 43) dL_law_41 rfl (z_in_of rfl) (by decide) ?_
  refine zr_and63 (q := 44) dL_law_43 rfl ?_
  generalize (xs i.toNat).toInt = x
  have h0 : 0 ≤ x % 64 := by omega
  generalize x % 64 = v at h0
  have hv : v = 0 ∨ v = 1 ∨ v = 2 ∨ v = 3 ∨ v = 4 ∨ v = 5 ∨ v = 6 ∨ v = 7 ∨ v = 8 ∨ v = 9 ∨ v = 10 ∨ v = 11 ∨ v = 12 ∨ v = 13 ∨ v = 14 ∨ v = 15 ∨ v = 16 ∨ v = 17 ∨ v = 18 ∨ v = 19 ∨ v = 20 ∨ v = 21 ∨ v = 22 ∨ v = 23 ∨ v = 24 ∨ v = 25 ∨ v = 26 ∨ v = 27 ∨ v = 28 ∨ v = 29 ∨ v = 30 ∨ v = 31 ∨ v = 32 ∨ v = 33 ∨ v = 34 ∨ v = 35 ∨ v = 36 ∨ v = 37 ∨ v = 38 ∨ v = 39 ∨ v = 40 ∨ v = 41 ∨ v = 42 ∨ v = 43 ∨ v = 44 ∨ v = 45 ∨ v = 46 ∨ v = 47 ∨ v = 48 ∨ 48 < v := by omega
  rcases hv with rfl | rfl | rfl | rfl | rfl | rfl | rfl | rfl | rfl | rfl | rfl | rfl | rfl | rfl | rfl | rfl | rfl | rfl | rfl | rfl | rfl | rfl | rfl | rfl | rfl | rfl | rfl | rfl | rfl | rfl | rfl | rfl | rfl | rfl | rfl | rfl | rfl | rfl | rfl | rfl | rfl | rfl | rfl | rfl | rfl | rfl | rfl | rfl | rfl | hv
  · exact zr_tableIn (off := 212) (q := 256) dL_law_44 (by decide) (by decide) rfl (by decide) (l_addWind R9 hi hL kk)
  · exact zr_tableIn (off := 256) (q := 300) dL_law_44 (by decide) (by decide) rfl (by decide) (l_withdraw R9 hi hL kk)
  · exact zr_tableIn (off := 312) (q := 356) dL_law_44 (by decide) (by decide) rfl (by decide) (l_windCount R9 hi hL kk)
  · exact zr_tableIn (off := 325) (q := 369) dL_law_44 (by decide) (by decide) rfl (by decide) (l_standingCount R9 hi hL kk)
  · exact zr_tableIn (off := 338) (q := 382) dL_law_44 (by decide) (by decide) rfl (by decide) (l_isStanding R9 hi hL kk)
  · exact zr_tableIn (off := 401) (q := 445) dL_law_44 (by decide) (by decide) rfl (by decide) (l_hasSeat R9 hi hL kk)
  · exact zr_tableIn (off := 464) (q := 508) dL_law_44 (by decide) (by decide) rfl (by decide) (l_addBallot R9 hi hL kk)
  · exact zr_tableIn (off := 532) (q := 576) dL_law_44 (by decide) (by decide) rfl (by decide) (l_rank R9 hi hL kk)
  · exact zr_tableIn (off := 600) (q := 644) dL_law_44 (by decide) (by decide) rfl (by decide) (l_removeBallot R9 hi hL kk)
  · exact zr_tableIn (off := 656) (q := 700) dL_law_44 (by decide) (by decide) rfl (by decide) (l_recount R9 hi hL kk)
  · exact zr_tableIn (off := 724) (q := 768) dL_law_44 (by decide) (by decide) rfl (by decide) (l_ballotCount R9 hi hL kk)
  · exact zr_tableIn (off := 737) (q := 781) dL_law_44 (by decide) (by decide) rfl (by decide) (l_weightOf R9 hi hL kk)
  · exact zr_tableIn (off := 793) (q := 837) dL_law_44 (by decide) (by decide) rfl (by decide) (l_rankCount R9 hi hL kk)
  · exact zr_tableIn (off := 849) (q := 893) dL_law_44 (by decide) (by decide) rfl (by decide) (l_windAt R9 hi hL kk)
  · exact zr_tableIn (off := 917) (q := 961) dL_law_44 (by decide) (by decide) rfl (by decide) (l_rankOf R9 hi hL kk)
  · exact zr_tableIn (off := 985) (q := 1029) dL_law_44 (by decide) (by decide) rfl (by decide) (l_totalWeight R9 hi hL kk)
  · exact zr_tableIn (off := 998) (q := 1042) dL_law_44 (by decide) (by decide) rfl (by decide) (l_winner R9 hi hL kk)
  · exact zr_tableIn (off := 1042) (q := 1086) dL_law_44 (by decide) (by decide) rfl (by decide) (l_winnerByTransfers R9 hi hL kk)
  · exact zr_tableIn (off := 1086) (q := 1130) dL_law_44 (by decide) (by decide) rfl (by decide) (l_roundCount R9 hi hL kk)
  · exact zr_tableIn (off := 1099) (q := 1143) dL_law_44 (by decide) (by decide) rfl (by decide) (l_votesIn R9 hi hL kk)
  · exact zr_tableIn (off := 1167) (q := 1211) dL_law_44 (by decide) (by decide) rfl (by decide) (l_exhaustedIn R9 hi hL kk)
  · exact zr_tableIn (off := 1223) (q := 1267) dL_law_44 (by decide) (by decide) rfl (by decide) (l_eliminatedIn R9 hi hL kk)
  · exact zr_tableIn (off := 1279) (q := 1323) dL_law_44 (by decide) (by decide) rfl (by decide) (l_isTieIn R9 hi hL kk)
  · exact zr_tableIn (off := 1342) (q := 1386) dL_law_44 (by decide) (by decide) rfl (by decide) (l_roundOfElimination R9 hi hL kk)
  · exact zr_tableIn (off := 1398) (q := 1442) dL_law_44 (by decide) (by decide) rfl (by decide) (l_winnerShare R9 hi hL kk)
  · exact zr_tableIn (off := 1464) (q := 1508) dL_law_44 (by decide) (by decide) rfl (by decide) (l_preference R9 hi hL kk)
  · exact zr_tableIn (off := 1532) (q := 1576) dL_law_44 (by decide) (by decide) rfl (by decide) (l_beats R9 hi hL kk)
  · exact zr_tableIn (off := 1607) (q := 1651) dL_law_44 (by decide) (by decide) rfl (by decide) (l_victories R9 hi hL kk)
  · exact zr_tableIn (off := 1663) (q := 1707) dL_law_44 (by decide) (by decide) rfl (by decide) (l_championOfPairs R9 hi hL kk)
  · exact zr_tableIn (off := 1707) (q := 1751) dL_law_44 (by decide) (by decide) rfl (by decide) (l_championByDuels R9 hi hL kk)
  · exact zr_tableIn (off := 1751) (q := 1795) dL_law_44 (by decide) (by decide) rfl (by decide) (l_scoreOf R9 hi hL kk)
  · exact zr_tableIn (off := 1807) (q := 1851) dL_law_44 (by decide) (by decide) rfl (by decide) (l_windByScore R9 hi hL kk)
  · exact zr_tableIn (off := 1863) (q := 1907) dL_law_44 (by decide) (by decide) rfl (by decide) (l_spin R9 hi hL kk)
  · exact zr_tableIn (off := 1876) (q := 1920) dL_law_44 (by decide) (by decide) rfl (by decide) (l_spinValue R9 hi hL kk)
  · exact zr_tableIn (off := 1889) (q := 1933) dL_law_44 (by decide) (by decide) rfl (by decide) (l_certify R9 hi hL kk)
  · exact zr_tableIn (off := 1933) (q := 1977) dL_law_44 (by decide) (by decide) rfl (by decide) (l_seatCount R9 hi hL kk)
  · exact zr_tableIn (off := 1946) (q := 1990) dL_law_44 (by decide) (by decide) rfl (by decide) (l_seatAt R9 hi hL kk)
  · exact zr_tableIn (off := 2002) (q := 2046) dL_law_44 (by decide) (by decide) rfl (by decide) (l_writeBallot R9 hi hL kk)
  · exact zr_tableIn (off := 2058) (q := 2102) dL_law_44 (by decide) (by decide) rfl (by decide) (l_writeCount R9 hi hL kk)
  · exact zr_tableIn (off := 2071) (q := 2115) dL_law_44 (by decide) (by decide) rfl (by decide) (l_lineAt R9 hi hL kk)
  · exact zr_tableIn (off := 2127) (q := 2171) dL_law_44 (by decide) (by decide) rfl (by decide) (l_meanRanks R9 hi hL kk)
  · exact zr_tableIn (off := 2192) (q := 2236) dL_law_44 (by decide) (by decide) rfl (by decide) (l_isConsistent R9 hi hL kk)
  · exact zr_tableIn (off := 2205) (q := 2249) dL_law_44 (by decide) (by decide) rfl (by decide) (l_type R9 hi hL kk)
  · exact zr_tableIn (off := 2263) (q := 2307) dL_law_44 (by decide) (by decide) rfl (by decide) (l_execute R9 hi hL kk)
  · exact zr_tableIn (off := 2307) (q := 2351) dL_law_44 (by decide) (by decide) rfl (by decide) (l_errorPosition R9 hi hL kk)
  · exact zr_tableIn (off := 2351) (q := 2395) dL_law_44 (by decide) (by decide) rfl (by decide) (l_failedCommand R9 hi hL kk)
  · exact zr_tableIn (off := 2395) (q := 2439) dL_law_44 (by decide) (by decide) rfl (by decide) (l_undo R9 hi hL kk)
  · exact zr_tableIn (off := 2439) (q := 2483) dL_law_44 (by decide) (by decide) rfl (by decide) (l_save R9 hi hL kk)
  · exact zr_tableIn (off := 2452) (q := 2496) dL_law_44 (by decide) (by decide) rfl (by decide) (l_restore R9 hi hL kk)
  · exact zr_tableOut (q := 2540) dL_law_44 (Or.inr hv) (by decide) (zr_room (kk M R9) (by omega) (by omega))
/-- the head of the loop -/
theorem law_head (hL : L ≤ 1536) (h0 : 0 ≤ i) (kt : (L : Int) < i + 3 → z_Ex (mL_law L xs) zF 2546 [(1, -98), (1, 1), (1, 517), (1, 529), (1, 530), (0, i), (9, 0), (9, 0), (9, 0)] [] M bc bs Q) (kf : i + 3 ≤ (L : Int) → z_Ex (mL_law L xs) zF 37 [(1, -98), (1, 1), (1, 517), (1, 529), (1, 530), (0, i), (9, 0), (9, 0), (9, 0)] [] M bc bs Q) : z_Ex (mL_law L xs) zF 28 [(1, -98), (1, 1), (1, 517), (1, 529), (1, 530), (0, i), (9, 0), (9, 0), (9, 0)] [] M bc bs Q := by
  refine zr_iload (n := 0) (i := 5) (q := 30) rfl dL_law_28 rfl ?_
  refine zr_aloadn (k := 0) (q := 31) rfl dL_law_30 rfl ?_
  refine zr_slen (q := 32) (fun _ _ h => h) hL dL_law_31 rfl ?_
  refine zr_iconst (q := 33) dL_law_32 rfl (z_in_of rfl) ?_
  refine zr_isub (q := 34) dL_law_33 rfl (fun _ _ => ⟨by omega, by omega⟩) ?_
  exact zr_icmp_gt (q := 2546) (q2 := 37) dL_law_34 (by decide) rfl (fun c => kt (by omega)) (fun c => kf (by omega))
theorem law_loop (hL : L ≤ 1536) : ∀ (m : Nat) (i : Int) (M : zM), 0 ≤ i → (L : Int) - i < 3 * m + 3 → zRl M → z_Ex (mL_law L xs) zF 28 [(1, -98), (1, 1), (1, 517), (1, 529), (1, 530), (0, i), (9, 0), (9, 0), (9, 0)] [] M (3 * m) (18 * m) (fun r _ _ => r = (0, 1)) := by
  intro m
  induction m with
  | zero =>
    intro i M h0 h1 R9
    refine law_head hL h0 (fun _ => ?_) (fun c => ?_)
    · refine zr_iconst (q := 2547) dL_law_2546 rfl (z_in_of rfl) ?_
      exact zr_ireturn dL_law_2547 rfl (z_fit_z (Or.inr rfl)) rfl
    · omega
  | succ m ih =>
    intro i M h0 h1 R9
    refine law_head hL h0 (fun _ => ?_) (fun c => ?_)
    · refine zr_iconst (q := 2547) dL_law_2546 rfl (z_in_of rfl) ?_
      exact zr_ireturn dL_law_2547 rfl (z_fit_z (Or.inr rfl)) rfl
    · refine zr_room (b1 := 3 * m + 3) (b2 := 18 * m + 18) ?_ (by omega) (by omega)
      refine law_call R9 ⟨h0, c⟩ hL (fun M' R' => ?_)
      refine zr_iinc (i := 5) (n := 3) (x := i) (q := 2543) rfl dL_law_2540 rfl (show 5 < 9 by decide) rfl (fun _ => ⟨by omega, by omega⟩) ?_
      refine zr_goto (q := 28) dL_law_2543 (by decide) ?_
      exact ih (i + 3) M' (by omega) (by omega) R'
theorem zRl.init (h : zIn1 M) (g : zIn2 M) : zRl M := by
  obtain ⟨h1, ⟨h2, h3, h4⟩, h5, h6, h7, ⟨h8, h9⟩, h10, h11, h12, h13, h14, h15⟩ := h
  obtain ⟨g1, ⟨g2, g3, g4, g5, g6, g7, g8⟩, g9⟩ := g
  refine ⟨zNil, 0, M 520, 0, fun k j => M 519 (160 * k + j), [], [], -1, -1, ⟨h1, h5, h6.h, ⟨h7.h, h2, fun c => absurd c (by decide)⟩, ⟨h8, h9, fun k k0 k1 => by omega⟩, h10, h11, h12, ⟨h13, h14, h15⟩, h3, h4⟩, ⟨g1, g9, ⟨g2, fun _ _ _ => rfl⟩, ⟨g3, fun k j k0 k1 => by omega⟩, ⟨g8, fun i hi => absurd hi (Nat.not_lt_zero _)⟩, ⟨g5, fun i hi => absurd hi (Nat.not_lt_zero _)⟩, g6, g7, g4⟩, ⟨zNil_w, Or.inl rfl, fun c => absurd c (by decide), ⟨by decide, by decide⟩, fun k k0 k1 => by omega, ⟨Nat.zero_le _, fun y hy => by cases hy⟩, ⟨Nat.zero_le _, fun y hy => by cases hy⟩, by decide, by decide⟩⟩
theorem zIn1.of {M' : zM} (h : zIn1 M) (e9 : ∀ z, 1 ≤ z → z < 517 → M' z = M z) : zIn1 M' := by
  obtain ⟨h1, ⟨h2, h3, h4⟩, h5, h6, h7, ⟨h8, h9⟩, h10, h11, h12, h13, h14, h15⟩ := h
  have e1 := e9 1 (by decide) (by decide)
  refine ⟨h1.of e1, by rw [e1]; exact ⟨h2, h3, h4⟩, h5.of zNil_w (fun z a b => e9 z (by omega) (by omega)), h6.of zNil_w (fun z a b => e9 z (by omega) (by omega)), h7.of zNil_w (fun z a b => e9 z (by omega) (by omega)), ⟨h8.of (fun z a b => e9 z (by omega) (by omega)), by rw [e9 134 (by decide) (by decide)]; exact h9⟩, h10.of (fun z a b => e9 z (by omega) (by omega)), h11.of (fun z a b => e9 z (by omega) (by omega)), h12.oz (fun z a b => e9 z (by omega) (by omega)), h13.oz (fun z a b => e9 z (by omega) (by omega)), by rw [e9 513 (by decide) (by decide)]; exact ⟨h14, h15⟩⟩
theorem zIn2.of {M' : zM} (h : zIn2 M) (e9 : ∀ z, 517 ≤ z → z < 529 → M' z = M z) : zIn2 M' := by
  unfold zIn2 zHm at h ⊢
  rw [e9 517 (by decide) (by decide), e9 518 (by decide) (by decide)]
  exact h
/-- the whole walk -/
theorem law_whole {S : zS} (hL : L ≤ 1536) (hS : zShp S 0 zK) : z_Ex (mL_law L xs) S 0 [(1, -98), (9, 0), (9, 0), (9, 0), (9, 0), (9, 0), (9, 0), (9, 0), (9, 0)] [] M 603072 7202922 (fun r _ _ => r = (0, 1)) := by
  have k529' : zK 529 = (13, 1) := by decide +kernel
  have k530' : zK 530 = (14, 1) := by decide +kernel
  refine zc_new (z := 1) (q := 3) hS (by omega) zK_c.1.2.2.1 (by omega) nwL_8 dL_law_0 rfl rfl (Nat.le_of_ble_eq_true rfl) (Nat.le_of_ble_eq_true rfl) (fun S1 hS1 => ?_)
  refine zr_dup (q := 4) dL_law_3 rfl (Or.inr rfl) ?_
  refine zr_ctor (as := []) (c_X11_init hS1) (fun k S9 M9 hP => (z_no hP.1 rfl).elim) mtX11_init rfl rfl wiX11_init wkL_142 (q := 7) dL_law_4 rfl rfl ⟨Nat.le_of_ble_eq_true rfl, Nat.le_of_ble_eq_true rfl, rfl⟩ (by omega) rfl (Nat.le_of_ble_eq_true rfl) (Nat.le_of_ble_eq_true rfl) (Nat.le_of_ble_eq_true rfl) (fun r S2 M2 h8 hP => ?_)
  obtain ⟨rfl, hS2, hI1⟩ := hP
  refine zr_astoren (k := 1) (q := 8) dL_law_7 rfl (show 1 < 9 by decide) rfl ?_
  refine zc_new (z := 517) (q := 11) hS2 (by omega) zK_c.1.2.2.2.1 (by omega) nwL_143 dL_law_8 rfl rfl (Nat.le_of_ble_eq_true rfl) (Nat.le_of_ble_eq_true rfl) (fun S3 hS3 => ?_)
  refine zr_dup (q := 12) dL_law_11 rfl (Or.inr rfl) ?_
  refine zr_ctor (as := []) (c_X12_init hS3 (fun j => z_zero_eq)) (fun k S9 M9 hP => (z_no hP.1 rfl).elim) mtX12_init rfl rfl wiX12_init wkL_145 (q := 15) dL_law_12 rfl rfl ⟨Nat.le_of_ble_eq_true rfl, Nat.le_of_ble_eq_true rfl, rfl⟩ (by omega) rfl (Nat.le_of_ble_eq_true rfl) (Nat.le_of_ble_eq_true rfl) (Nat.le_of_ble_eq_true rfl) (fun r S4 M4 h8 hP => ?_)
  obtain ⟨rfl, hS4, hI2, e4⟩ := hP
  refine zr_astoren (k := 2) (q := 16) dL_law_15 rfl (show 2 < 9 by decide) rfl ?_
  refine zr_iconst (q := 17) dL_law_16 rfl (z_in_of rfl) ?_
  refine zc_newa (z := 529) (nn := 1) (kd := 13) (ty := .long) (q := 19) hS4 (by omega) k529' (by omega) rfl (Or.inr (Or.inr (Or.inr (Or.inl ⟨rfl, rfl⟩)))) (z_all_in (i := 1675) (by decide +kernel) (by decide +kernel)) dL_law_17 rfl rfl (by omega) (Nat.le_of_ble_eq_true rfl) (Nat.le_of_ble_eq_true rfl) (fun S5 hS5 => ?_)
  refine zr_astoren (k := 3) (q := 20) dL_law_19 rfl (show 3 < 9 by decide) rfl ?_
  refine zr_iconst (q := 21) dL_law_20 rfl (z_in_of rfl) ?_
  refine zc_newa (z := 530) (nn := 1) (kd := 14) (ty := .double) (q := 23) hS5 (by omega) k530' (by omega) rfl (Or.inr (Or.inr (Or.inr (Or.inr ⟨rfl, rfl⟩)))) (z_all_in (i := 1676) (by decide +kernel) (by decide +kernel)) dL_law_21 rfl rfl (by omega) (Nat.le_of_ble_eq_true rfl) (Nat.le_of_ble_eq_true rfl) (fun S6 hS6 => ?_)
  refine zr_astore (i := 4) (q := 25) dL_law_23 rfl (show 4 < 9 by decide) rfl ?_
  refine zr_iconst (q := 26) dL_law_25 rfl (z_in_of rfl) ?_
  refine zr_istore (i := 5) (q := 28) dL_law_26 rfl (show 5 < 9 by decide) rfl ?_
  refine zr_shp hS6 ?_
  refine zr_room (b1 := 3 * 512) (b2 := 18 * 512) (law_loop hL 512 0 _ (by omega) (by omega) (zRl.init (hI1.of (fun z a b => ?_)) (hI2.of (fun z a b => ?_)))) (Nat.le_of_ble_eq_true rfl) (Nat.le_of_ble_eq_true rfl)
  · rw [z_zero_ne (by omega), z_zero_ne (by omega), e4 z (by omega), z_zero_ne (by omega)]
  · rw [z_zero_ne (by omega), z_zero_ne (by omega)]
end ZLAW
