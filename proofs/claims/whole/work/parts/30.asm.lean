/-! ===== WindElection$Assembly: what only reads ===== -/
section ZA
variable {M : zM} {a : Int} {G : Int → Int}
theorem s_X1_hasWind (ha : zAs a) (R : zAR M a G) {w : Int} : z_Call mX1_hasWind zF [(1, a), (0, w)] M (zpF 0 (if 0 ≤ w ∧ w < G 0 then 1 else 0) M) := by
  have o0 := zAs_0 ha
  refine z_enter (k := 0) rfl rfl rfl ?_
  refine zp_il1 (q := 1) dX1_hasWind_0 rfl ?_
  refine zr_if_lt (q := 16) (q2 := 4) dX1_hasWind_1 (by decide) rfl (fun h1 => ?_) (fun h1 => ?_)
  · refine zr_iconst (q := 17) dX1_hasWind_16 rfl (z_in_of rfl) ?_
    refine zr_ireturn dX1_hasWind_17 rfl (z_fit_z (by decide)) ?_
    exact ⟨by rw [if_neg (by omega)], rfl, rfl⟩
  · refine zp_il1 (q := 5) dX1_hasWind_4 rfl ?_
    refine zp_al0 (q := 6) dX1_hasWind_5 rfl ?_
    refine zf_getG (v := G 0) 0 (by first | assumption | exact k2 | exact k46 | exact k90) (R.w) rfl fdX1_9 (q := 9) dX1_hasWind_6 rfl rfl ?_
    refine zr_icmp_ge (q := 16) (q2 := 12) dX1_hasWind_9 (by decide) rfl (fun h9 => ?_) (fun h9 => ?_)
    · refine zr_iconst (q := 17) dX1_hasWind_16 rfl (z_in_of rfl) ?_
      refine zr_ireturn dX1_hasWind_17 rfl (z_fit_z (by decide)) ?_
      exact ⟨by rw [if_neg (by omega)], rfl, rfl⟩
    · refine zr_iconst (q := 13) dX1_hasWind_12 rfl (z_in_of rfl) ?_
      refine zr_goto (q := 17) dX1_hasWind_13 (by decide) ?_
      refine zr_ireturn dX1_hasWind_17 rfl (z_fit_z (by decide)) ?_
      exact ⟨by rw [if_pos (by omega)], rfl, rfl⟩
theorem s_X1_hasBallot (ha : zAs a) (R : zAR M a G) {w : Int} : z_Call mX1_hasBallot zF [(1, a), (0, w)] M (zpF 0 (if 0 ≤ w ∧ w < G 1 then 1 else 0) M) := by
  have o0 := zAs_0 ha
  refine z_enter (k := 0) rfl rfl rfl ?_
  refine zp_il1 (q := 1) dX1_hasBallot_0 rfl ?_
  refine zr_if_lt (q := 16) (q2 := 4) dX1_hasBallot_1 (by decide) rfl (fun h1 => ?_) (fun h1 => ?_)
  · refine zr_iconst (q := 17) dX1_hasBallot_16 rfl (z_in_of rfl) ?_
    refine zr_ireturn dX1_hasBallot_17 rfl (z_fit_z (by decide)) ?_
    exact ⟨by rw [if_neg (by omega)], rfl, rfl⟩
  · refine zp_il1 (q := 5) dX1_hasBallot_4 rfl ?_
    refine zp_al0 (q := 6) dX1_hasBallot_5 rfl ?_
    refine zf_getG (v := G 1) 4 (by first | assumption | exact k2 | exact k46 | exact k90) (R.n) rfl fdX1_26 (q := 9) dX1_hasBallot_6 rfl rfl ?_
    refine zr_icmp_ge (q := 16) (q2 := 12) dX1_hasBallot_9 (by decide) rfl (fun h9 => ?_) (fun h9 => ?_)
    · refine zr_iconst (q := 17) dX1_hasBallot_16 rfl (z_in_of rfl) ?_
      refine zr_ireturn dX1_hasBallot_17 rfl (z_fit_z (by decide)) ?_
      exact ⟨by rw [if_neg (by omega)], rfl, rfl⟩
    · refine zr_iconst (q := 13) dX1_hasBallot_12 rfl (z_in_of rfl) ?_
      refine zr_goto (q := 17) dX1_hasBallot_13 (by decide) ?_
      refine zr_ireturn dX1_hasBallot_17 rfl (z_fit_z (by decide)) ?_
      exact ⟨by rw [if_pos (by omega)], rfl, rfl⟩
theorem s_X1_isWeight {w : Int} : z_Call mX1_isWeight zF [(0, w)] M (zpF 0 (if 1 ≤ w ∧ w ≤ 99 then 1 else 0) M) := by
  refine z_enter (k := 0) rfl rfl rfl ?_
  refine zp_il0 (q := 1) dX1_isWeight_0 rfl ?_
  refine zr_iconst (q := 2) dX1_isWeight_1 rfl (z_in_of rfl) ?_
  refine zr_icmp_lt (q := 15) (q2 := 5) dX1_isWeight_2 (by decide) rfl (fun h2 => ?_) (fun h2 => ?_)
  · refine zr_iconst (q := 16) dX1_isWeight_15 rfl (z_in_of rfl) ?_
    refine zr_ireturn dX1_isWeight_16 rfl (z_fit_z (by decide)) ?_
    exact ⟨by rw [if_neg (by omega)], rfl, rfl⟩
  · refine zp_il0 (q := 6) dX1_isWeight_5 rfl ?_
    refine zr_bipush (q := 8) dX1_isWeight_6 rfl (z_in_of rfl) (by decide +kernel) ?_
    refine zr_icmp_gt (q := 15) (q2 := 11) dX1_isWeight_8 (by decide) rfl (fun h8 => ?_) (fun h8 => ?_)
    · refine zr_iconst (q := 16) dX1_isWeight_15 rfl (z_in_of rfl) ?_
      refine zr_ireturn dX1_isWeight_16 rfl (z_fit_z (by decide)) ?_
      exact ⟨by rw [if_neg (by omega)], rfl, rfl⟩
    · refine zr_iconst (q := 12) dX1_isWeight_11 rfl (z_in_of rfl) ?_
      refine zr_goto (q := 16) dX1_isWeight_12 (by decide) ?_
      refine zr_ireturn dX1_isWeight_16 rfl (z_fit_z (by decide)) ?_
      exact ⟨by rw [if_pos (by omega)], rfl, rfl⟩
theorem s_X1_standingWinds_l (ha : zAs a) (R : zAR M a G) (hG : zWF G) {bc bs : Nat} : ∀ (m : Nat) (k x : Int), 0 ≤ k → k ≤ G 0 → G 0 - k < m → 0 ≤ x → x ≤ k → x = zU (fun w => if G (4 + w) = 0 then 1 else 0) k →
    z_Ex mX1_standingWinds zF 4 [(1, a), (0, x), (0, k)] [] M bc bs (zpF 0 (zSt G) M) := by
  have o0 := zAs_0 ha
  have o1 := zAs_1 ha
  have hw := hG.w
  intro m
  induction m with
  | zero => intro k x h0 h1 h2; omega
  | succ m ih =>
    intro k x h0 h1 h2 h3 h4 hx
    refine zp_il2 (q := 5) dX1_standingWinds_4 rfl ?_
    refine zp_al0 (q := 6) dX1_standingWinds_5 rfl ?_
    refine zf_getG (v := G 0) 0 (by first | assumption | exact k2 | exact k46 | exact k90) (R.w) rfl fdX1_9 (q := 9) dX1_standingWinds_6 rfl rfl ?_
    refine zr_icmp_ge (q := 30) (q2 := 12) dX1_standingWinds_9 (by decide) rfl (fun h9 => ?_) (fun h9 => ?_)
    · refine zp_il1 (q := 31) dX1_standingWinds_30 rfl ?_
      refine zr_ireturn dX1_standingWinds_31 rfl (z_fit_i _) ?_
      exact ⟨by rw [hx, show k = G 0 by omega]; rfl, rfl, rfl⟩
    · refine zp_al0 (q := 13) dX1_standingWinds_12 rfl ?_
      refine zf_getG (v := a + 1) 1 (by first | assumption | exact k2 | exact k46 | exact k90) (R.h.p1) rfl fdX1_15 (q := 16) dX1_standingWinds_13 rfl rfl ?_
      refine zp_il2 (q := 17) dX1_standingWinds_16 rfl ?_
      refine zf_zald (v := if G (4 + k) = 0 then 1 else 0) (by first | assumption | exact k518 | exact k519 | exact k520 | exact k521 | exact k522 | exact k523 | exact k524 | exact k525 | exact k526 | exact k527 | exact k528 | exact k510 | exact k512 | exact k515 | exact k516 | exact k507 | exact k509 | exact k135 | exact k489 | exact k529 | exact k530) (R.st (by omega) (by omega)) (q := 18) dX1_standingWinds_17 rfl (by omega) (by omega) ?_
      refine zr_if_eq (q := 24) (q2 := 21) dX1_standingWinds_18 (by decide) rfl (fun h18 => ?_) (fun h18 => ?_)
      · refine zp_inc2 (q := 27) dX1_standingWinds_24 rfl rfl rfl (fun hA => by unfold z_in at hA ⊢; omega) ?_
        refine zr_goto (q := 4) dX1_standingWinds_27 (by decide) ?_
        exact ih (k + 1) _ (by omega) (by omega) (by omega) (by omega) (by omega) (by rw [zU_s _ (by omega), ← hx]; omega)
      · refine zp_inc1 (q := 24) dX1_standingWinds_21 rfl rfl rfl (fun hA => by unfold z_in at hA ⊢; omega) ?_
        refine zp_inc2 (q := 27) dX1_standingWinds_24 rfl rfl rfl (fun hA => by unfold z_in at hA ⊢; omega) ?_
        refine zr_goto (q := 4) dX1_standingWinds_27 (by decide) ?_
        exact ih (k + 1) _ (by omega) (by omega) (by omega) (by omega) (by omega) (by rw [zU_s _ (by omega), ← hx]; omega)
theorem s_X1_standingWinds (ha : zAs a) (R : zAR M a G) (hG : zWF G) : z_Call mX1_standingWinds zF [(1, a)] M (zpF 0 (zSt G) M) := by
  have hw := hG.w
  refine z_enter (k := 2) rfl rfl rfl ?_
  refine zr_iconst (q := 1) dX1_standingWinds_0 rfl (z_in_of rfl) ?_
  refine zp_is1 (q := 2) dX1_standingWinds_1 rfl rfl rfl ?_
  refine zr_iconst (q := 3) dX1_standingWinds_2 rfl (z_in_of rfl) ?_
  refine zp_is2 (q := 4) dX1_standingWinds_3 rfl rfl rfl ?_
  exact s_X1_standingWinds_l ha R hG 9 0 0 (by omega) (by omega) (by omega) (by omega) (by omega) rfl
theorem s_X1_windInSeat_l (ha : zAs a) (R : zAR M a G) (hG : zWF G) {s : Int} {bc bs : Nat} : ∀ (m : Nat) (k : Int), 0 ≤ k → k ≤ G 0 → G 0 - k < m → (∀ j, 0 ≤ j → j < k → ¬ (M (a + 2) j ≠ -1 ∧ M (a + 2) j = s)) →
    z_Ex mX1_windInSeat zF 2 [(1, a), (0, s), (0, k)] [] M bc bs (zpF 0 (if 0 ≤ s ∧ s < G 3 then G (12 + s) else -1) M) := by
  have o0 := zAs_0 ha
  have o2 := zAs_2 ha
  have hw := hG.w
  intro m
  induction m with
  | zero => intro k h0 h1 h2; omega
  | succ m ih =>
    intro k h0 h1 h2 hx
    refine zp_il2 (q := 3) dX1_windInSeat_2 rfl ?_
    refine zp_al0 (q := 4) dX1_windInSeat_3 rfl ?_
    refine zf_getG (v := G 0) 0 (by first | assumption | exact k2 | exact k46 | exact k90) (R.w) rfl fdX1_9 (q := 7) dX1_windInSeat_4 rfl rfl ?_
    refine zr_icmp_ge (q := 38) (q2 := 10) dX1_windInSeat_7 (by decide) rfl (fun h7 => ?_) (fun h7 => ?_)
    · refine zr_iconst (q := 39) dX1_windInSeat_38 rfl (z_in_of rfl) ?_
      refine zr_ireturn dX1_windInSeat_39 rfl (z_fit_i _) ?_
      refine ⟨?_, rfl, rfl⟩
      by_cases hs : 0 ≤ s ∧ s < G 3
      · have h5 := R.seat.2 s hs.1 hs.2
        exact absurd ⟨by rw [h5.2.2.2]; omega, h5.2.2.2⟩ (hx (G (12 + s)) h5.1 (by omega))
      · rw [if_neg hs]
    · refine zp_al0 (q := 11) dX1_windInSeat_10 rfl ?_
      refine zf_getG (v := a + 2) 2 (by first | assumption | exact k2 | exact k46 | exact k90) (R.h.p2) rfl fdX1_19 (q := 14) dX1_windInSeat_11 rfl rfl ?_
      refine zp_il2 (q := 15) dX1_windInSeat_14 rfl ?_
      refine zf_iald (v := _) (by first | assumption | exact k518 | exact k519 | exact k520 | exact k521 | exact k522 | exact k523 | exact k524 | exact k525 | exact k526 | exact k527 | exact k528 | exact k510 | exact k512 | exact k515 | exact k516 | exact k507 | exact k509 | exact k135 | exact k489 | exact k529 | exact k530) (rfl) (q := 16) dX1_windInSeat_15 rfl (by omega) (by omega) ?_
      refine zr_iconst (q := 17) dX1_windInSeat_16 rfl (z_in_of rfl) ?_
      refine zr_icmp_eq (q := 32) (q2 := 20) dX1_windInSeat_17 (by decide) rfl (fun h17 => ?_) (fun h17 => ?_)
      · refine zp_inc2 (q := 35) dX1_windInSeat_32 rfl rfl rfl (fun hA => by unfold z_in at hA ⊢; omega) ?_
        refine zr_goto (q := 2) dX1_windInSeat_35 (by decide) ?_
        exact ih (k + 1) (by omega) (by omega) (by omega) (fun j a1 a2 => by
          by_cases e : j = k
          · rw [e]; omega
          · exact hx j a1 (by omega))
      · refine zp_al0 (q := 21) dX1_windInSeat_20 rfl ?_
        refine zf_getG (v := a + 2) 2 (by first | assumption | exact k2 | exact k46 | exact k90) (R.h.p2) rfl fdX1_19 (q := 24) dX1_windInSeat_21 rfl rfl ?_
        refine zp_il2 (q := 25) dX1_windInSeat_24 rfl ?_
        refine zf_iald (v := _) (by first | assumption | exact k518 | exact k519 | exact k520 | exact k521 | exact k522 | exact k523 | exact k524 | exact k525 | exact k526 | exact k527 | exact k528 | exact k510 | exact k512 | exact k515 | exact k516 | exact k507 | exact k509 | exact k135 | exact k489 | exact k529 | exact k530) (rfl) (q := 26) dX1_windInSeat_25 rfl (by omega) (by omega) ?_
        refine zp_il1 (q := 27) dX1_windInSeat_26 rfl ?_
        refine zr_icmp_ne (q := 32) (q2 := 30) dX1_windInSeat_27 (by decide) rfl (fun h27 => ?_) (fun h27 => ?_)
        · refine zp_inc2 (q := 35) dX1_windInSeat_32 rfl rfl rfl (fun hA => by unfold z_in at hA ⊢; omega) ?_
          refine zr_goto (q := 2) dX1_windInSeat_35 (by decide) ?_
          exact ih (k + 1) (by omega) (by omega) (by omega) (fun j a1 a2 => by
            by_cases e : j = k
            · rw [e]; omega
            · exact hx j a1 (by omega))
        · refine zp_il2 (q := 31) dX1_windInSeat_30 rfl ?_
          refine zr_ireturn dX1_windInSeat_31 rfl (z_fit_i _) ?_
          have hs := (R.seat.1 k (by omega) (by omega))
          have e2 : G (4 + k) = 2 := Classical.byContradiction fun n => h17 (hs.1 n)
          have hs2 := hs.2 e2
          have e3 : M (a + 2) k = s := Classical.byContradiction fun n => h27 n
          rw [e3] at hs2
          exact ⟨by rw [if_pos ⟨hs2.1, hs2.2.1⟩, hs2.2.2], rfl, rfl⟩
theorem s_X1_windInSeat (ha : zAs a) (R : zAR M a G) (hG : zWF G) {s : Int} : z_Call mX1_windInSeat zF [(1, a), (0, s)] M (zpF 0 (if 0 ≤ s ∧ s < G 3 then G (12 + s) else -1) M) := by
  have hw := hG.w
  refine z_enter (k := 1) rfl rfl rfl ?_
  refine zr_iconst (q := 1) dX1_windInSeat_0 rfl (z_in_of rfl) ?_
  refine zp_is2 (q := 2) dX1_windInSeat_1 rfl rfl rfl ?_
  exact s_X1_windInSeat_l ha R hG 9 0 (by omega) (by omega) (by omega) (fun j a1 a2 => by omega)
theorem s_X1_weightOfAll_l (ha : zAs a) (R : zAR M a G) (hG : zWF G) {bc bs : Nat} : ∀ (m : Nat) (k x : Int), 0 ≤ k → k ≤ G 1 → G 1 - k < m → 0 ≤ x → x ≤ 99 * k → x = zU (fun b => G (20 + 7 * b)) k →
    z_Ex mX1_weightOfAll zF 4 [(1, a), (0, x), (0, k)] [] M bc bs (zpF 0 (zTot G) M) := by
  have o0 := zAs_0 ha
  have o3 := zAs_3 ha
  have hn := hG.n
  intro m
  induction m with
  | zero => intro k x h0 h1 h2; omega
  | succ m ih =>
    intro k x h0 h1 h2 h3 h4 hx
    refine zp_il2 (q := 5) dX1_weightOfAll_4 rfl ?_
    refine zp_al0 (q := 6) dX1_weightOfAll_5 rfl ?_
    refine zf_getG (v := G 1) 4 (by first | assumption | exact k2 | exact k46 | exact k90) (R.n) rfl fdX1_26 (q := 9) dX1_weightOfAll_6 rfl rfl ?_
    refine zr_icmp_ge (q := 30) (q2 := 12) dX1_weightOfAll_9 (by decide) rfl (fun h9 => ?_) (fun h9 => ?_)
    · refine zp_il1 (q := 31) dX1_weightOfAll_30 rfl ?_
      refine zr_ireturn dX1_weightOfAll_31 rfl (z_fit_i _) ?_
      exact ⟨by rw [hx, show k = G 1 by omega]; rfl, rfl, rfl⟩
    · refine zp_il1 (q := 13) dX1_weightOfAll_12 rfl ?_
      refine zp_al0 (q := 14) dX1_weightOfAll_13 rfl ?_
      have hb := R.h.bl h0 (show k < 20 by omega)
      have ob := zBl_0 ha hb
      have hw := hG.wt h0 (show k < G 1 by omega)
      refine zf_getG (v := a + 3) 5 (by first | assumption | exact k2 | exact k46 | exact k90) (R.h.p3) rfl fdX1_31 (q := 17) dX1_weightOfAll_14 rfl rfl ?_
      refine zp_il2 (q := 18) dX1_weightOfAll_17 rfl ?_
      refine zf_aald (v := _) (by first | assumption | exact k518 | exact k519 | exact k520 | exact k521 | exact k522 | exact k523 | exact k524 | exact k525 | exact k526 | exact k527 | exact k528 | exact k510 | exact k512 | exact k515 | exact k516 | exact k507 | exact k509 | exact k135 | exact k489 | exact k529 | exact k530) (rfl) (by decide) (q := 19) dX1_weightOfAll_18 rfl (by omega) (by omega) ?_
      refine zf_getG (v := G (20 + 7 * k)) 0 (by assumption) (R.bw (by omega) (by omega)) rfl fdX1_94 (q := 22) dX1_weightOfAll_19 rfl rfl ?_
      refine zr_iadd (q := 23) dX1_weightOfAll_22 rfl (fun hA hB => by unfold z_in at hA hB ⊢; omega) ?_
      refine zp_is1 (q := 24) dX1_weightOfAll_23 rfl rfl rfl ?_
      refine zp_inc2 (q := 27) dX1_weightOfAll_24 rfl rfl rfl (fun hA => by unfold z_in at hA ⊢; omega) ?_
      refine zr_goto (q := 4) dX1_weightOfAll_27 (by decide) ?_
      exact ih (k + 1) _ (by omega) (by omega) (by omega) (by omega) (by omega) (by rw [zU_s _ (by omega), ← hx])
theorem s_X1_weightOfAll (ha : zAs a) (R : zAR M a G) (hG : zWF G) : z_Call mX1_weightOfAll zF [(1, a)] M (zpF 0 (zTot G) M) := by
  have hn := hG.n
  refine z_enter (k := 2) rfl rfl rfl ?_
  refine zr_iconst (q := 1) dX1_weightOfAll_0 rfl (z_in_of rfl) ?_
  refine zp_is1 (q := 2) dX1_weightOfAll_1 rfl rfl rfl ?_
  refine zr_iconst (q := 3) dX1_weightOfAll_2 rfl (z_in_of rfl) ?_
  refine zp_is2 (q := 4) dX1_weightOfAll_3 rfl rfl rfl ?_
  exact s_X1_weightOfAll_l ha R hG 21 0 0 (by omega) (by omega) (by omega) (by omega) (by omega) rfl
theorem s_X1_ranksOfAll_l (ha : zAs a) (R : zAR M a G) (hG : zWF G) {bc bs : Nat} : ∀ (m : Nat) (k x : Int), 0 ≤ k → k ≤ G 1 → G 1 - k < m → 0 ≤ x → x ≤ 99 * k → x = zU (fun b => G (20 + 7 * b + 1)) k →
    z_Ex mX1_ranksOfAll zF 4 [(1, a), (0, x), (0, k)] [] M bc bs (zpF 0 (zRks G) M) := by
  have o0 := zAs_0 ha
  have o3 := zAs_3 ha
  have hn := hG.n
  intro m
  induction m with
  | zero => intro k x h0 h1 h2; omega
  | succ m ih =>
    intro k x h0 h1 h2 h3 h4 hx
    refine zp_il2 (q := 5) dX1_ranksOfAll_4 rfl ?_
    refine zp_al0 (q := 6) dX1_ranksOfAll_5 rfl ?_
    refine zf_getG (v := G 1) 4 (by first | assumption | exact k2 | exact k46 | exact k90) (R.n) rfl fdX1_26 (q := 9) dX1_ranksOfAll_6 rfl rfl ?_
    refine zr_icmp_ge (q := 30) (q2 := 12) dX1_ranksOfAll_9 (by decide) rfl (fun h9 => ?_) (fun h9 => ?_)
    · refine zp_il1 (q := 31) dX1_ranksOfAll_30 rfl ?_
      refine zr_ireturn dX1_ranksOfAll_31 rfl (z_fit_i _) ?_
      exact ⟨by rw [hx, show k = G 1 by omega]; rfl, rfl, rfl⟩
    · refine zp_il1 (q := 13) dX1_ranksOfAll_12 rfl ?_
      refine zp_al0 (q := 14) dX1_ranksOfAll_13 rfl ?_
      have hb := R.h.bl h0 (show k < 20 by omega)
      have ob := zBl_0 ha hb
      have hw := hG.sz h0 (show k < G 1 by omega)
      refine zf_getG (v := a + 3) 5 (by first | assumption | exact k2 | exact k46 | exact k90) (R.h.p3) rfl fdX1_31 (q := 17) dX1_ranksOfAll_14 rfl rfl ?_
      refine zp_il2 (q := 18) dX1_ranksOfAll_17 rfl ?_
      refine zf_aald (v := _) (by first | assumption | exact k518 | exact k519 | exact k520 | exact k521 | exact k522 | exact k523 | exact k524 | exact k525 | exact k526 | exact k527 | exact k528 | exact k510 | exact k512 | exact k515 | exact k516 | exact k507 | exact k509 | exact k135 | exact k489 | exact k529 | exact k530) (rfl) (by decide) (q := 19) dX1_ranksOfAll_18 rfl (by omega) (by omega) ?_
      refine zf_getG (v := G (20 + 7 * k + 1)) 1 (by assumption) (R.bn (by omega) (by omega)) rfl fdX1_100 (q := 22) dX1_ranksOfAll_19 rfl rfl ?_
      refine zr_iadd (q := 23) dX1_ranksOfAll_22 rfl (fun hA hB => by unfold z_in at hA hB ⊢; omega) ?_
      refine zp_is1 (q := 24) dX1_ranksOfAll_23 rfl rfl rfl ?_
      refine zp_inc2 (q := 27) dX1_ranksOfAll_24 rfl rfl rfl (fun hA => by unfold z_in at hA ⊢; omega) ?_
      refine zr_goto (q := 4) dX1_ranksOfAll_27 (by decide) ?_
      exact ih (k + 1) _ (by omega) (by omega) (by omega) (by omega) (by omega) (by rw [zU_s _ (by omega), ← hx])
theorem s_X1_ranksOfAll (ha : zAs a) (R : zAR M a G) (hG : zWF G) : z_Call mX1_ranksOfAll zF [(1, a)] M (zpF 0 (zRks G) M) := by
  have hn := hG.n
  refine z_enter (k := 2) rfl rfl rfl ?_
  refine zr_iconst (q := 1) dX1_ranksOfAll_0 rfl (z_in_of rfl) ?_
  refine zp_is1 (q := 2) dX1_ranksOfAll_1 rfl rfl rfl ?_
  refine zr_iconst (q := 3) dX1_ranksOfAll_2 rfl (z_in_of rfl) ?_
  refine zp_is2 (q := 4) dX1_ranksOfAll_3 rfl rfl rfl ?_
  exact s_X1_ranksOfAll_l ha R hG 21 0 0 (by omega) (by omega) (by omega) (by omega) (by omega) rfl
/-- a ballot of the assembly looks for a wind -/
theorem s_placeOf (ha : zAs a) (R : zAR M a G) (hG : zWF G) {i w : Int} (h0 : 0 ≤ i) (h1 : i < G 1) : z_Call mX2_placeOf zF [(1, M (a + 3) i), (0, w)] M (zpF 0 (zPl G i w) M) := by
  have hn := hG.n
  have hb := R.h.bl h0 (show i < 20 by omega)
  rw [← R.pl hG h0 h1]
  exact s_X2_placeOf ha hb (R.h.bp hb) (R.bn h0 h1) (hG.sz h0 h1).2
theorem s_X2_prefers (ha : zAs a) (R : zAR M a G) (hG : zWF G) {i w o : Int} (h0 : 0 ≤ i) (h1 : i < G 1) : z_Call mX2_prefers zF [(1, M (a + 3) i), (0, w), (0, o)] M (zpF 0 (if zPl G i w ≠ -1 ∧ (zPl G i o = -1 ∨ zPl G i w < zPl G i o) then 1 else 0) M) := by
  have hn := hG.n
  have hb := R.h.bl h0 (show i < 20 by omega)
  have ob := zBl_0 ha hb
  refine z_enter (k := 2) rfl rfl rfl ?_
  refine zp_al0 (q := 1) dX2_prefers_0 rfl ?_
  refine zp_il1 (q := 2) dX2_prefers_1 rfl ?_
  refine zf_callV1 (by assumption) (s_placeOf ha R hG h0 h1) mtX2_placeOf wiX2_placeOf weX2_placeOf wlX2_22 (q := 5) dX2_prefers_2 rfl rfl rfl rfl rfl rfl rfl (fun r S9 M9 h8 hP => ?_) (fun k S9 M9 hP => (z_no hP.1 rfl).elim)
  obtain ⟨rfl, rfl, h9⟩ := hP
  subst M9
  refine zp_is3 (q := 6) dX2_prefers_5 rfl rfl rfl ?_
  refine zp_al0 (q := 7) dX2_prefers_6 rfl ?_
  refine zp_il2 (q := 8) dX2_prefers_7 rfl ?_
  refine zf_callV1 (by assumption) (s_placeOf ha R hG h0 h1) mtX2_placeOf wiX2_placeOf weX2_placeOf wlX2_22 (q := 11) dX2_prefers_8 rfl rfl rfl rfl rfl rfl rfl (fun r S9 M9 h8 hP => ?_) (fun k S9 M9 hP => (z_no hP.1 rfl).elim)
  obtain ⟨rfl, rfl, h9⟩ := hP
  subst M9
  refine zp_is4 (q := 13) dX2_prefers_11 rfl rfl rfl ?_
  refine zp_il3 (q := 14) dX2_prefers_13 rfl ?_
  refine zr_iconst (q := 15) dX2_prefers_14 rfl (z_in_of rfl) ?_
  refine zr_icmp_eq (q := 34) (q2 := 18) dX2_prefers_15 (by decide) rfl (fun h15 => ?_) (fun h15 => ?_)
  · refine zr_iconst (q := 35) dX2_prefers_34 rfl (z_in_of rfl) ?_
    refine zr_ireturn dX2_prefers_35 rfl (z_fit_z (by decide)) ?_
    exact ⟨by rw [if_neg (by omega)], rfl, rfl⟩
  · refine zp_il4 (q := 20) dX2_prefers_18 rfl ?_
    refine zr_iconst (q := 21) dX2_prefers_20 rfl (z_in_of rfl) ?_
    refine zr_icmp_eq (q := 30) (q2 := 24) dX2_prefers_21 (by decide) rfl (fun h21 => ?_) (fun h21 => ?_)
    · refine zr_iconst (q := 31) dX2_prefers_30 rfl (z_in_of rfl) ?_
      refine zr_goto (q := 35) dX2_prefers_31 (by decide) ?_
      refine zr_ireturn dX2_prefers_35 rfl (z_fit_z (by decide)) ?_
      exact ⟨by rw [if_pos (by omega)], rfl, rfl⟩
    · refine zp_il3 (q := 25) dX2_prefers_24 rfl ?_
      refine zp_il4 (q := 27) dX2_prefers_25 rfl ?_
      refine zr_icmp_ge (q := 34) (q2 := 30) dX2_prefers_27 (by decide) rfl (fun h27 => ?_) (fun h27 => ?_)
      · refine zr_iconst (q := 35) dX2_prefers_34 rfl (z_in_of rfl) ?_
        refine zr_ireturn dX2_prefers_35 rfl (z_fit_z (by decide)) ?_
        exact ⟨by rw [if_neg (by omega)], rfl, rfl⟩
      · refine zr_iconst (q := 31) dX2_prefers_30 rfl (z_in_of rfl) ?_
        refine zr_goto (q := 35) dX2_prefers_31 (by decide) ?_
        refine zr_ireturn dX2_prefers_35 rfl (z_fit_z (by decide)) ?_
        exact ⟨by rw [if_pos (by omega)], rfl, rfl⟩
theorem s_X1_weightPreferring_l (ha : zAs a) (R : zAR M a G) (hG : zWF G) {w o : Int} {bc bs : Nat} : ∀ (m : Nat) (k x : Int), 0 ≤ k → k ≤ G 1 → G 1 - k < m → 0 ≤ x → x ≤ 99 * k → x = zU (fun b => if zPl G b w ≠ -1 ∧ (zPl G b o = -1 ∨ zPl G b w < zPl G b o) then G (20 + 7 * b) else 0) k →
    z_Ex mX1_weightPreferring zF 5 [(1, a), (0, w), (0, o), (0, x), (0, k)] [] M bc bs (zpF 0 (zPrf G w o) M) := by
  have o0 := zAs_0 ha
  have o3 := zAs_3 ha
  have hn := hG.n
  intro m
  induction m with
  | zero => intro k x h0 h1 h2; omega
  | succ m ih =>
    intro k x h0 h1 h2 h3 h4 hx
    refine zp_il4 (q := 7) dX1_weightPreferring_5 rfl ?_
    refine zp_al0 (q := 8) dX1_weightPreferring_7 rfl ?_
    refine zf_getG (v := G 1) 4 (by first | assumption | exact k2 | exact k46 | exact k90) (R.n) rfl fdX1_26 (q := 11) dX1_weightPreferring_8 rfl rfl ?_
    refine zr_icmp_ge (q := 48) (q2 := 14) dX1_weightPreferring_11 (by decide) rfl (fun h11 => ?_) (fun h11 => ?_)
    · refine zp_il3 (q := 49) dX1_weightPreferring_48 rfl ?_
      refine zr_ireturn dX1_weightPreferring_49 rfl (z_fit_i _) ?_
      exact ⟨by rw [hx, show k = G 1 by omega]; rfl, rfl, rfl⟩
    · have hb := R.h.bl h0 (show k < 20 by omega)
      have ob := zBl_0 ha hb
      have hw := hG.wt h0 (show k < G 1 by omega)
      refine zp_al0 (q := 15) dX1_weightPreferring_14 rfl ?_
      refine zf_getG (v := a + 3) 5 (by first | assumption | exact k2 | exact k46 | exact k90) (R.h.p3) rfl fdX1_31 (q := 18) dX1_weightPreferring_15 rfl rfl ?_
      refine zp_il4 (q := 20) dX1_weightPreferring_18 rfl ?_
      refine zf_aald (v := _) (by first | assumption | exact k518 | exact k519 | exact k520 | exact k521 | exact k522 | exact k523 | exact k524 | exact k525 | exact k526 | exact k527 | exact k528 | exact k510 | exact k512 | exact k515 | exact k516 | exact k507 | exact k509 | exact k135 | exact k489 | exact k529 | exact k530) (rfl) (by decide) (q := 21) dX1_weightPreferring_20 rfl (by omega) (by omega) ?_
      refine zp_il1 (q := 22) dX1_weightPreferring_21 rfl ?_
      refine zp_il2 (q := 23) dX1_weightPreferring_22 rfl ?_
      refine zf_callV2 (by assumption) (s_X2_prefers ha R hG (by omega) (by omega)) mtX2_prefers wiX2_prefers weX2_prefers wlX1_103 (q := 26) dX1_weightPreferring_23 rfl rfl rfl rfl rfl rfl rfl (fun r S9 M9 h8 hP => ?_) (fun k S9 M9 hP => (z_no hP.1 rfl).elim)
      obtain ⟨rfl, rfl, h9⟩ := hP
      subst M9
      refine zr_if_eq (q := 42) (q2 := 29) dX1_weightPreferring_26 (by decide) rfl (fun h26 => ?_) (fun h26 => ?_)
      · refine zp_inc4 (q := 45) dX1_weightPreferring_42 rfl rfl rfl (fun hA => by unfold z_in at hA ⊢; omega) ?_
        refine zr_goto (q := 5) dX1_weightPreferring_45 (by decide) ?_
        exact ih (k + 1) _ (by omega) (by omega) (by omega) (by omega) (by omega) (by rw [zU_s _ (by omega), ← hx]; omega)
      · refine zp_il3 (q := 30) dX1_weightPreferring_29 rfl ?_
        refine zp_al0 (q := 31) dX1_weightPreferring_30 rfl ?_
        refine zf_getG (v := a + 3) 5 (by first | assumption | exact k2 | exact k46 | exact k90) (R.h.p3) rfl fdX1_31 (q := 34) dX1_weightPreferring_31 rfl rfl ?_
        refine zp_il4 (q := 36) dX1_weightPreferring_34 rfl ?_
        refine zf_aald (v := _) (by first | assumption | exact k518 | exact k519 | exact k520 | exact k521 | exact k522 | exact k523 | exact k524 | exact k525 | exact k526 | exact k527 | exact k528 | exact k510 | exact k512 | exact k515 | exact k516 | exact k507 | exact k509 | exact k135 | exact k489 | exact k529 | exact k530) (rfl) (by decide) (q := 37) dX1_weightPreferring_36 rfl (by omega) (by omega) ?_
        refine zf_getG (v := G (20 + 7 * k)) 0 (by assumption) (R.bw (by omega) (by omega)) rfl fdX1_94 (q := 40) dX1_weightPreferring_37 rfl rfl ?_
        refine zr_iadd (q := 41) dX1_weightPreferring_40 rfl (fun hA hB => by unfold z_in at hA hB ⊢; omega) ?_
        refine zp_is3 (q := 42) dX1_weightPreferring_41 rfl rfl rfl ?_
        refine zp_inc4 (q := 45) dX1_weightPreferring_42 rfl rfl rfl (fun hA => by unfold z_in at hA ⊢; omega) ?_
        refine zr_goto (q := 5) dX1_weightPreferring_45 (by decide) ?_
        exact ih (k + 1) _ (by omega) (by omega) (by omega) (by omega) (by omega) (by rw [zU_s _ (by omega), ← hx]; omega)
theorem s_X1_weightPreferring (ha : zAs a) (R : zAR M a G) (hG : zWF G) {w o : Int} : z_Call mX1_weightPreferring zF [(1, a), (0, w), (0, o)] M (zpF 0 (zPrf G w o) M) := by
  have hn := hG.n
  refine z_enter (k := 2) rfl rfl rfl ?_
  refine zr_iconst (q := 1) dX1_weightPreferring_0 rfl (z_in_of rfl) ?_
  refine zp_is3 (q := 2) dX1_weightPreferring_1 rfl rfl rfl ?_
  refine zr_iconst (q := 3) dX1_weightPreferring_2 rfl (z_in_of rfl) ?_
  refine zp_is4 (q := 5) dX1_weightPreferring_3 rfl rfl rfl ?_
  exact s_X1_weightPreferring_l ha R hG 21 0 0 (by omega) (by omega) (by omega) (by omega) (by omega) rfl
theorem s_X1_isStronger (ha : zAs a) (R : zAR M a G) (hG : zWF G) {w o : Int} : z_Call mX1_isStronger zF [(1, a), (0, w), (0, o)] M (zpF 0 (if zPrf G o w < zPrf G w o then 1 else 0) M) := by
  have o0 := zAs_0 ha
  refine z_enter (k := 0) rfl rfl rfl ?_
  refine zp_al0 (q := 1) dX1_isStronger_0 rfl ?_
  refine zp_il1 (q := 2) dX1_isStronger_1 rfl ?_
  refine zp_il2 (q := 3) dX1_isStronger_2 rfl ?_
  refine zf_callV2 (by first | assumption | exact k2 | exact k46 | exact k90) (s_X1_weightPreferring ha R hG) mtX1_weightPreferring wiX1_weightPreferring weX1_weightPreferring wlX1_107 (q := 6) dX1_isStronger_3 rfl rfl rfl rfl rfl rfl rfl (fun r S9 M9 h8 hP => ?_) (fun k S9 M9 hP => (z_no hP.1 rfl).elim)
  obtain ⟨rfl, rfl, h9⟩ := hP
  subst M9
  refine zp_al0 (q := 7) dX1_isStronger_6 rfl ?_
  refine zp_il2 (q := 8) dX1_isStronger_7 rfl ?_
  refine zp_il1 (q := 9) dX1_isStronger_8 rfl ?_
  refine zf_callV2 (by first | assumption | exact k2 | exact k46 | exact k90) (s_X1_weightPreferring ha R hG) mtX1_weightPreferring wiX1_weightPreferring weX1_weightPreferring wlX1_107 (q := 12) dX1_isStronger_9 rfl rfl rfl rfl rfl rfl rfl (fun r S9 M9 h8 hP => ?_) (fun k S9 M9 hP => (z_no hP.1 rfl).elim)
  obtain ⟨rfl, rfl, h9⟩ := hP
  subst M9
  refine zr_icmp_le (q := 19) (q2 := 15) dX1_isStronger_12 (by decide) rfl (fun h12 => ?_) (fun h12 => ?_)
  · refine zr_iconst (q := 20) dX1_isStronger_19 rfl (z_in_of rfl) ?_
    refine zr_ireturn dX1_isStronger_20 rfl (z_fit_z (by decide)) ?_
    exact ⟨by first | rw [if_pos (by omega)] | rw [if_neg (by omega)], rfl, rfl⟩
  · refine zr_iconst (q := 16) dX1_isStronger_15 rfl (z_in_of rfl) ?_
    refine zr_goto (q := 20) dX1_isStronger_16 (by decide) ?_
    refine zr_ireturn dX1_isStronger_20 rfl (z_fit_z (by decide)) ?_
    exact ⟨by first | rw [if_pos (by omega)] | rw [if_neg (by omega)], rfl, rfl⟩
theorem s_X1_standingWindsBeatenBy_l (ha : zAs a) (R : zAR M a G) (hG : zWF G) {w : Int} {bc bs : Nat} : ∀ (m : Nat) (k x : Int), 0 ≤ k → k ≤ G 0 → G 0 - k < m → 0 ≤ x → x ≤ k → x = zU (fun o => if G (4 + o) = 0 ∧ zPrf G o w < zPrf G w o then 1 else 0) k →
    z_Ex mX1_standingWindsBeatenBy zF 4 [(1, a), (0, w), (0, x), (0, k)] [] M bc bs (zpF 0 (zBt G w) M) := by
  have o0 := zAs_0 ha
  have o1 := zAs_1 ha
  have hw := hG.w
  intro m
  induction m with
  | zero => intro k x h0 h1 h2; omega
  | succ m ih =>
    intro k x h0 h1 h2 h3 h4 hx
    refine zp_il3 (q := 5) dX1_standingWindsBeatenBy_4 rfl ?_
    refine zp_al0 (q := 6) dX1_standingWindsBeatenBy_5 rfl ?_
    refine zf_getG (v := G 0) 0 (by first | assumption | exact k2 | exact k46 | exact k90) (R.w) rfl fdX1_9 (q := 9) dX1_standingWindsBeatenBy_6 rfl rfl ?_
    refine zr_icmp_ge (q := 39) (q2 := 12) dX1_standingWindsBeatenBy_9 (by decide) rfl (fun h9 => ?_) (fun h9 => ?_)
    · refine zp_il2 (q := 40) dX1_standingWindsBeatenBy_39 rfl ?_
      refine zr_ireturn dX1_standingWindsBeatenBy_40 rfl (z_fit_i _) ?_
      exact ⟨by rw [hx, show k = G 0 by omega]; rfl, rfl, rfl⟩
    · refine zp_al0 (q := 13) dX1_standingWindsBeatenBy_12 rfl ?_
      refine zf_getG (v := a + 1) 1 (by first | assumption | exact k2 | exact k46 | exact k90) (R.h.p1) rfl fdX1_15 (q := 16) dX1_standingWindsBeatenBy_13 rfl rfl ?_
      refine zp_il3 (q := 17) dX1_standingWindsBeatenBy_16 rfl ?_
      refine zf_zald (v := if G (4 + k) = 0 then 1 else 0) (by first | assumption | exact k518 | exact k519 | exact k520 | exact k521 | exact k522 | exact k523 | exact k524 | exact k525 | exact k526 | exact k527 | exact k528 | exact k510 | exact k512 | exact k515 | exact k516 | exact k507 | exact k509 | exact k135 | exact k489 | exact k529 | exact k530) (R.st (by omega) (by omega)) (q := 18) dX1_standingWindsBeatenBy_17 rfl (by omega) (by omega) ?_
      refine zr_if_eq (q := 33) (q2 := 21) dX1_standingWindsBeatenBy_18 (by decide) rfl (fun h18 => ?_) (fun h18 => ?_)
      · refine zp_inc3 (q := 36) dX1_standingWindsBeatenBy_33 rfl rfl rfl (fun hA => by unfold z_in at hA ⊢; omega) ?_
        refine zr_goto (q := 4) dX1_standingWindsBeatenBy_36 (by decide) ?_
        exact ih (k + 1) _ (by omega) (by omega) (by omega) (by omega) (by omega) (by rw [zU_s _ (by omega), ← hx]; omega)
      · refine zp_al0 (q := 22) dX1_standingWindsBeatenBy_21 rfl ?_
        refine zp_il1 (q := 23) dX1_standingWindsBeatenBy_22 rfl ?_
        refine zp_il3 (q := 24) dX1_standingWindsBeatenBy_23 rfl ?_
        refine zf_callV2 (by first | assumption | exact k2 | exact k46 | exact k90) (s_X1_isStronger ha R hG) mtX1_isStronger wiX1_isStronger weX1_isStronger wlX1_111 (q := 27) dX1_standingWindsBeatenBy_24 rfl rfl rfl rfl rfl rfl rfl (fun r S9 M9 h8 hP => ?_) (fun k S9 M9 hP => (z_no hP.1 rfl).elim)
        obtain ⟨rfl, rfl, h9⟩ := hP
        subst M9
        refine zr_if_eq (q := 33) (q2 := 30) dX1_standingWindsBeatenBy_27 (by decide) rfl (fun h27 => ?_) (fun h27 => ?_)
        · refine zp_inc3 (q := 36) dX1_standingWindsBeatenBy_33 rfl rfl rfl (fun hA => by unfold z_in at hA ⊢; omega) ?_
          refine zr_goto (q := 4) dX1_standingWindsBeatenBy_36 (by decide) ?_
          exact ih (k + 1) _ (by omega) (by omega) (by omega) (by omega) (by omega) (by rw [zU_s _ (by omega), ← hx]; omega)
        · refine zp_inc2 (q := 33) dX1_standingWindsBeatenBy_30 rfl rfl rfl (fun hA => by unfold z_in at hA ⊢; omega) ?_
          refine zp_inc3 (q := 36) dX1_standingWindsBeatenBy_33 rfl rfl rfl (fun hA => by unfold z_in at hA ⊢; omega) ?_
          refine zr_goto (q := 4) dX1_standingWindsBeatenBy_36 (by decide) ?_
          exact ih (k + 1) _ (by omega) (by omega) (by omega) (by omega) (by omega) (by rw [zU_s _ (by omega), ← hx]; omega)
theorem s_X1_standingWindsBeatenBy (ha : zAs a) (R : zAR M a G) (hG : zWF G) {w : Int} : z_Call mX1_standingWindsBeatenBy zF [(1, a), (0, w)] M (zpF 0 (zBt G w) M) := by
  have hw := hG.w
  refine z_enter (k := 2) rfl rfl rfl ?_
  refine zr_iconst (q := 1) dX1_standingWindsBeatenBy_0 rfl (z_in_of rfl) ?_
  refine zp_is2 (q := 2) dX1_standingWindsBeatenBy_1 rfl rfl rfl ?_
  refine zr_iconst (q := 3) dX1_standingWindsBeatenBy_2 rfl (z_in_of rfl) ?_
  refine zp_is3 (q := 4) dX1_standingWindsBeatenBy_3 rfl rfl rfl ?_
  exact s_X1_standingWindsBeatenBy_l ha R hG 9 0 0 (by omega) (by omega) (by omega) (by omega) (by omega) rfl
theorem zSt_range (hG : zWF G) : 0 ≤ zSt G ∧ zSt G ≤ G 0 := by
  have a := zU_le (f := fun w => if G (4 + w) = 0 then 1 else 0) (n := G 0) (lo := 0) (hi := 1) hG.w.1 (fun k _ _ => by split <;> omega)
  unfold zSt
  omega
theorem s_X1_championAmongPairs_l (ha : zAs a) (R : zAR M a G) (hG : zWF G) {bc bs : Nat} : ∀ (m : Nat) (k : Int), 0 ≤ k → k ≤ G 0 → G 0 - k < m → (∀ j, 0 ≤ j → j < k → ¬ (G (4 + j) = 0 ∧ zBt G j = zSt G - 1)) →
    z_Ex mX1_championAmongPairs zF 9 [(1, a), (0, zSt G - 1), (0, k)] [] M bc bs (zpF 0 (zCh G) M) := by
  have o0 := zAs_0 ha
  have o1 := zAs_1 ha
  have hw := hG.w
  intro m
  induction m with
  | zero => intro k h0 h1 h2; omega
  | succ m ih =>
    intro k h0 h1 h2 hx
    refine zp_il2 (q := 10) dX1_championAmongPairs_9 rfl ?_
    refine zp_al0 (q := 11) dX1_championAmongPairs_10 rfl ?_
    refine zf_getG (v := G 0) 0 (by first | assumption | exact k2 | exact k46 | exact k90) (R.w) rfl fdX1_9 (q := 14) dX1_championAmongPairs_11 rfl rfl ?_
    refine zr_icmp_ge (q := 43) (q2 := 17) dX1_championAmongPairs_14 (by decide) rfl (fun h14 => ?_) (fun h14 => ?_)
    · refine zr_iconst (q := 44) dX1_championAmongPairs_43 rfl (z_in_of rfl) ?_
      refine zr_ireturn dX1_championAmongPairs_44 rfl (z_fit_i _) ?_
      exact ⟨by unfold zCh; rw [zFs_no (fun j a1 a2 => decide_eq_false (hx j a1 (by omega)))], rfl, rfl⟩
    · refine zp_al0 (q := 18) dX1_championAmongPairs_17 rfl ?_
      refine zf_getG (v := a + 1) 1 (by first | assumption | exact k2 | exact k46 | exact k90) (R.h.p1) rfl fdX1_15 (q := 21) dX1_championAmongPairs_18 rfl rfl ?_
      refine zp_il2 (q := 22) dX1_championAmongPairs_21 rfl ?_
      refine zf_zald (v := if G (4 + k) = 0 then 1 else 0) (by first | assumption | exact k518 | exact k519 | exact k520 | exact k521 | exact k522 | exact k523 | exact k524 | exact k525 | exact k526 | exact k527 | exact k528 | exact k510 | exact k512 | exact k515 | exact k516 | exact k507 | exact k509 | exact k135 | exact k489 | exact k529 | exact k530) (R.st (by omega) (by omega)) (q := 23) dX1_championAmongPairs_22 rfl (by omega) (by omega) ?_
      refine zr_if_eq (q := 37) (q2 := 26) dX1_championAmongPairs_23 (by decide) rfl (fun h23 => ?_) (fun h23 => ?_)
      · refine zp_inc2 (q := 40) dX1_championAmongPairs_37 rfl rfl rfl (fun hA => by unfold z_in at hA ⊢; omega) ?_
        refine zr_goto (q := 9) dX1_championAmongPairs_40 (by decide) ?_
        exact ih (k + 1) (by omega) (by omega) (by omega) (fun j a1 a2 => by
          by_cases e : j = k
          · rw [e]; omega
          · exact hx j a1 (by omega))
      · refine zp_al0 (q := 27) dX1_championAmongPairs_26 rfl ?_
        refine zp_il2 (q := 28) dX1_championAmongPairs_27 rfl ?_
        refine zf_callV1 (by first | assumption | exact k2 | exact k46 | exact k90) (s_X1_standingWindsBeatenBy ha R hG) mtX1_standingWindsBeatenBy wiX1_standingWindsBeatenBy weX1_standingWindsBeatenBy wlX1_118 (q := 31) dX1_championAmongPairs_28 rfl rfl rfl rfl rfl rfl rfl (fun r S9 M9 h8 hP => ?_) (fun k S9 M9 hP => (z_no hP.1 rfl).elim)
        obtain ⟨rfl, rfl, h9⟩ := hP
        subst M9
        refine zp_il1 (q := 32) dX1_championAmongPairs_31 rfl ?_
        refine zr_icmp_ne (q := 37) (q2 := 35) dX1_championAmongPairs_32 (by decide) rfl (fun h32 => ?_) (fun h32 => ?_)
        · refine zp_inc2 (q := 40) dX1_championAmongPairs_37 rfl rfl rfl (fun hA => by unfold z_in at hA ⊢; omega) ?_
          refine zr_goto (q := 9) dX1_championAmongPairs_40 (by decide) ?_
          exact ih (k + 1) (by omega) (by omega) (by omega) (fun j a1 a2 => by
            by_cases e : j = k
            · rw [e]; omega
            · exact hx j a1 (by omega))
        · refine zp_il2 (q := 36) dX1_championAmongPairs_35 rfl ?_
          refine zr_ireturn dX1_championAmongPairs_36 rfl (z_fit_i _) ?_
          exact ⟨by unfold zCh; rw [zFs_yes h0 (by omega) (decide_eq_true (by omega)) (fun j a1 a2 => decide_eq_false (hx j a1 a2))], rfl, rfl⟩
theorem s_X1_championAmongPairs (ha : zAs a) (R : zAR M a G) (hG : zWF G) : z_Call mX1_championAmongPairs zF [(1, a)] M (zpF 0 (zCh G) M) := by
  have o0 := zAs_0 ha
  have hw := hG.w
  have hs := zSt_range hG
  refine z_enter (k := 2) rfl rfl rfl ?_
  refine zp_al0 (q := 1) dX1_championAmongPairs_0 rfl ?_
  refine zf_callV0 (by first | assumption | exact k2 | exact k46 | exact k90) (s_X1_standingWinds ha R hG) mtX1_standingWinds wiX1_standingWinds weX1_standingWinds wlX1_114 (q := 4) dX1_championAmongPairs_1 rfl rfl rfl rfl rfl rfl rfl (fun r S9 M9 h8 hP => ?_) (fun k S9 M9 hP => (z_no hP.1 rfl).elim)
  obtain ⟨rfl, rfl, h9⟩ := hP
  subst M9
  refine zr_iconst (q := 5) dX1_championAmongPairs_4 rfl (z_in_of rfl) ?_
  refine zr_isub (q := 6) dX1_championAmongPairs_5 rfl (fun hA hB => by unfold z_in at hA hB ⊢; omega) ?_
  refine zp_is1 (q := 7) dX1_championAmongPairs_6 rfl rfl rfl ?_
  refine zr_iconst (q := 8) dX1_championAmongPairs_7 rfl (z_in_of rfl) ?_
  refine zp_is2 (q := 9) dX1_championAmongPairs_8 rfl rfl rfl ?_
  exact s_X1_championAmongPairs_l ha R hG 9 0 (by omega) (by omega) (by omega) (fun j a1 a2 => by omega)
theorem zSc_up (hG : zWF G) {w k : Int} (h0 : 0 ≤ k) (h1 : k < G 1) : 0 ≤ G (20 + 7 * k) * (5 - zPl G k w) ∧ G (20 + 7 * k) * (5 - zPl G k w) ≤ 594 := by
  have h2 := hG.wt h0 h1
  have h3 := zPl_range hG h0 h1 w
  refine ⟨Int.mul_nonneg (by omega) (by omega), ?_⟩
  have := Int.mul_le_mul (a := G (20 + 7 * k)) (b := 5 - zPl G k w) (c := 99) (d := 6) (by omega) (by omega) (by omega) (by omega)
  omega
theorem s_X1_scoreFor_l (ha : zAs a) (R : zAR M a G) (hG : zWF G) {w : Int} {bc bs : Nat} : ∀ (m : Nat) (k x : Int), 0 ≤ k → k ≤ G 1 → G 1 - k < m → 0 ≤ x → x ≤ 594 * k → x = zU (fun b => if zPl G b w = -1 then 0 else G (20 + 7 * b) * (5 - zPl G b w)) k →
    z_Ex mX1_scoreFor zF 4 [(1, a), (0, w), (0, x), (0, k), (9, 0)] [] M bc bs (zpF 0 (zSc G w) M) := by
  have o0 := zAs_0 ha
  have o3 := zAs_3 ha
  have hn := hG.n
  intro m
  induction m with
  | zero => intro k x h0 h1 h2; omega
  | succ m ih =>
    intro k x h0 h1 h2 h3 h4 hx
    refine zp_il3 (q := 5) dX1_scoreFor_4 rfl ?_
    refine zp_al0 (q := 6) dX1_scoreFor_5 rfl ?_
    refine zf_getG (v := G 1) 4 (by first | assumption | exact k2 | exact k46 | exact k90) (R.n) rfl fdX1_26 (q := 9) dX1_scoreFor_6 rfl rfl ?_
    refine zr_icmp_ge (q := 53) (q2 := 12) dX1_scoreFor_9 (by decide) rfl (fun h9 => ?_) (fun h9 => ?_)
    · refine zp_il2 (q := 54) dX1_scoreFor_53 rfl ?_
      refine zr_ireturn dX1_scoreFor_54 rfl (z_fit_i _) ?_
      exact ⟨by rw [hx, show k = G 1 by omega]; rfl, rfl, rfl⟩
    · have hb := R.h.bl h0 (show k < 20 by omega)
      have ob := zBl_0 ha hb
      have hw := hG.wt h0 (show k < G 1 by omega)
      have hp := zPl_range hG h0 (show k < G 1 by omega) w
      have hu := zSc_up hG (w := w) h0 (show k < G 1 by omega)
      refine zp_al0 (q := 13) dX1_scoreFor_12 rfl ?_
      refine zf_getG (v := a + 3) 5 (by first | assumption | exact k2 | exact k46 | exact k90) (R.h.p3) rfl fdX1_31 (q := 16) dX1_scoreFor_13 rfl rfl ?_
      refine zp_il3 (q := 17) dX1_scoreFor_16 rfl ?_
      refine zf_aald (v := _) (by first | assumption | exact k518 | exact k519 | exact k520 | exact k521 | exact k522 | exact k523 | exact k524 | exact k525 | exact k526 | exact k527 | exact k528 | exact k510 | exact k512 | exact k515 | exact k516 | exact k507 | exact k509 | exact k135 | exact k489 | exact k529 | exact k530) (rfl) (by decide) (q := 18) dX1_scoreFor_17 rfl (by omega) (by omega) ?_
      refine zp_il1 (q := 19) dX1_scoreFor_18 rfl ?_
      refine zf_callV1 (by assumption) (s_placeOf ha R hG (by omega) (by omega)) mtX2_placeOf wiX2_placeOf weX2_placeOf wlX1_81 (q := 22) dX1_scoreFor_19 rfl rfl rfl rfl rfl rfl rfl (fun r S9 M9 h8 hP => ?_) (fun k S9 M9 hP => (z_no hP.1 rfl).elim)
      obtain ⟨rfl, rfl, h9⟩ := hP
      subst M9
      refine zp_is4 (q := 24) dX1_scoreFor_22 rfl rfl rfl ?_
      refine zp_il4 (q := 26) dX1_scoreFor_24 rfl ?_
      refine zr_iconst (q := 27) dX1_scoreFor_26 rfl (z_in_of rfl) ?_
      refine zr_icmp_eq (q := 47) (q2 := 30) dX1_scoreFor_27 (by decide) rfl (fun h27 => ?_) (fun h27 => ?_)
      · refine zp_inc3 (q := 50) dX1_scoreFor_47 rfl rfl rfl (fun hA => by unfold z_in at hA ⊢; omega) ?_
        refine zr_goto (q := 4) dX1_scoreFor_50 (by decide) ?_
        exact zr_drop 4 (ih (k + 1) _ (by omega) (by omega) (by omega) (by omega) (by omega) (by rw [zU_s _ (by omega), ← hx]; omega))
      · refine zp_il2 (q := 31) dX1_scoreFor_30 rfl ?_
        refine zp_al0 (q := 32) dX1_scoreFor_31 rfl ?_
        refine zf_getG (v := a + 3) 5 (by first | assumption | exact k2 | exact k46 | exact k90) (R.h.p3) rfl fdX1_31 (q := 35) dX1_scoreFor_32 rfl rfl ?_
        refine zp_il3 (q := 36) dX1_scoreFor_35 rfl ?_
        refine zf_aald (v := _) (by first | assumption | exact k518 | exact k519 | exact k520 | exact k521 | exact k522 | exact k523 | exact k524 | exact k525 | exact k526 | exact k527 | exact k528 | exact k510 | exact k512 | exact k515 | exact k516 | exact k507 | exact k509 | exact k135 | exact k489 | exact k529 | exact k530) (rfl) (by decide) (q := 37) dX1_scoreFor_36 rfl (by omega) (by omega) ?_
        refine zf_getG (v := G (20 + 7 * k)) 0 (by assumption) (R.bw (by omega) (by omega)) rfl fdX1_94 (q := 40) dX1_scoreFor_37 rfl rfl ?_
        refine zr_iconst (q := 41) dX1_scoreFor_40 rfl (z_in_of rfl) ?_
        refine zp_il4 (q := 43) dX1_scoreFor_41 rfl ?_
        refine zr_isub (q := 44) dX1_scoreFor_43 rfl (fun hA hB => by unfold z_in at hA hB ⊢; omega) ?_
        refine zr_imul (q := 45) dX1_scoreFor_44 rfl (fun hA hB => by unfold z_in at hA hB ⊢; omega) ?_
        refine zr_iadd (q := 46) dX1_scoreFor_45 rfl (fun hA hB => by unfold z_in at hA hB ⊢; omega) ?_
        refine zp_is2 (q := 47) dX1_scoreFor_46 rfl rfl rfl ?_
        refine zp_inc3 (q := 50) dX1_scoreFor_47 rfl rfl rfl (fun hA => by unfold z_in at hA ⊢; omega) ?_
        refine zr_goto (q := 4) dX1_scoreFor_50 (by decide) ?_
        exact zr_drop 4 (ih (k + 1) _ (by omega) (by omega) (by omega) (by omega) (by omega) (by rw [zU_s _ (by omega), ← hx]; omega))
theorem s_X1_scoreFor (ha : zAs a) (R : zAR M a G) (hG : zWF G) {w : Int} : z_Call mX1_scoreFor zF [(1, a), (0, w)] M (zpF 0 (zSc G w) M) := by
  have hn := hG.n
  refine z_enter (k := 3) rfl rfl rfl ?_
  refine zr_iconst (q := 1) dX1_scoreFor_0 rfl (z_in_of rfl) ?_
  refine zp_is2 (q := 2) dX1_scoreFor_1 rfl rfl rfl ?_
  refine zr_iconst (q := 3) dX1_scoreFor_2 rfl (z_in_of rfl) ?_
  refine zp_is3 (q := 4) dX1_scoreFor_3 rfl rfl rfl ?_
  exact s_X1_scoreFor_l ha R hG 21 0 0 (by omega) (by omega) (by omega) (by omega) (by omega) rfl
end ZA
