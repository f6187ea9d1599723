/-! dep: 31 -/
/-! ===== the reference: what calls only read ===== -/
section ZBP
variable {M : zM}
theorem s_X12_windCount (H : zHm M) : z_Call mX12_windCount zF [(1, 517)] M (zpF 0 (M 518 0) (z_up M 517 7 0)) := by
  refine z_enter (k := 0) rfl rfl rfl ?_
  refine zp_al0 (q := 1) dX12_windCount_0 rfl ?_
  refine zr_iconst (q := 2) dX12_windCount_1 rfl (z_in_of rfl) ?_
  refine zf_putG 7 (k517) rfl fpX12_52 (q := 5) dX12_windCount_2 rfl rfl (by decide) (z_fit_i _) ?_
  refine zp_al0 (q := 6) dX12_windCount_5 rfl ?_
  refine zf_getG (v := 518) 0 (k517) (H.1) rfl fdX12_7 (q := 9) dX12_windCount_6 rfl rfl ?_
  refine zr_iconst (q := 10) dX12_windCount_9 rfl (z_in_of rfl) ?_
  refine zf_iald (v := _) (by first | assumption | exact k518 | exact k519 | exact k520 | exact k521 | exact k522 | exact k523 | exact k524 | exact k525 | exact k526 | exact k527 | exact k528 | exact k510 | exact k512 | exact k515 | exact k516 | exact k507 | exact k509 | exact k135 | exact k489 | exact k529 | exact k530) (rfl) (q := 11) dX12_windCount_10 rfl (by omega) (by omega) ?_
  refine zr_ireturn dX12_windCount_11 rfl (z_fit_i _) ?_
  exact ⟨rfl, rfl, rfl⟩
theorem s_X12_ballotCount (H : zHm M) : z_Call mX12_ballotCount zF [(1, 517)] M (zpF 0 (M 518 1) (z_up M 517 7 0)) := by
  refine z_enter (k := 0) rfl rfl rfl ?_
  refine zp_al0 (q := 1) dX12_ballotCount_0 rfl ?_
  refine zr_iconst (q := 2) dX12_ballotCount_1 rfl (z_in_of rfl) ?_
  refine zf_putG 7 (k517) rfl fpX12_52 (q := 5) dX12_ballotCount_2 rfl rfl (by decide) (z_fit_i _) ?_
  refine zp_al0 (q := 6) dX12_ballotCount_5 rfl ?_
  refine zf_getG (v := 518) 0 (k517) (H.1) rfl fdX12_7 (q := 9) dX12_ballotCount_6 rfl rfl ?_
  refine zr_iconst (q := 10) dX12_ballotCount_9 rfl (z_in_of rfl) ?_
  refine zf_iald (v := _) (by first | assumption | exact k518 | exact k519 | exact k520 | exact k521 | exact k522 | exact k523 | exact k524 | exact k525 | exact k526 | exact k527 | exact k528 | exact k510 | exact k512 | exact k515 | exact k516 | exact k507 | exact k509 | exact k135 | exact k489 | exact k529 | exact k530) (rfl) (q := 11) dX12_ballotCount_10 rfl (by omega) (by omega) ?_
  refine zr_ireturn dX12_ballotCount_11 rfl (z_fit_i _) ?_
  exact ⟨rfl, rfl, rfl⟩
theorem s_X12_spinValue (H : zHm M) : z_Call mX12_spinValue zF [(1, 517)] M (zpF 0 (M 518 2) (z_up M 517 7 0)) := by
  refine z_enter (k := 0) rfl rfl rfl ?_
  refine zp_al0 (q := 1) dX12_spinValue_0 rfl ?_
  refine zr_iconst (q := 2) dX12_spinValue_1 rfl (z_in_of rfl) ?_
  refine zf_putG 7 (k517) rfl fpX12_52 (q := 5) dX12_spinValue_2 rfl rfl (by decide) (z_fit_i _) ?_
  refine zp_al0 (q := 6) dX12_spinValue_5 rfl ?_
  refine zf_getG (v := 518) 0 (k517) (H.1) rfl fdX12_7 (q := 9) dX12_spinValue_6 rfl rfl ?_
  refine zr_iconst (q := 10) dX12_spinValue_9 rfl (z_in_of rfl) ?_
  refine zf_iald (v := _) (by first | assumption | exact k518 | exact k519 | exact k520 | exact k521 | exact k522 | exact k523 | exact k524 | exact k525 | exact k526 | exact k527 | exact k528 | exact k510 | exact k512 | exact k515 | exact k516 | exact k507 | exact k509 | exact k135 | exact k489 | exact k529 | exact k530) (rfl) (q := 11) dX12_spinValue_10 rfl (by omega) (by omega) ?_
  refine zr_ireturn dX12_spinValue_11 rfl (z_fit_i _) ?_
  exact ⟨rfl, rfl, rfl⟩
theorem s_X12_seatCount (H : zHm M) : z_Call mX12_seatCount zF [(1, 517)] M (zpF 0 (M 518 3) (z_up M 517 7 0)) := by
  refine z_enter (k := 0) rfl rfl rfl ?_
  refine zp_al0 (q := 1) dX12_seatCount_0 rfl ?_
  refine zr_iconst (q := 2) dX12_seatCount_1 rfl (z_in_of rfl) ?_
  refine zf_putG 7 (k517) rfl fpX12_52 (q := 5) dX12_seatCount_2 rfl rfl (by decide) (z_fit_i _) ?_
  refine zp_al0 (q := 6) dX12_seatCount_5 rfl ?_
  refine zf_getG (v := 518) 0 (k517) (H.1) rfl fdX12_7 (q := 9) dX12_seatCount_6 rfl rfl ?_
  refine zr_iconst (q := 10) dX12_seatCount_9 rfl (z_in_of rfl) ?_
  refine zf_iald (v := _) (by first | assumption | exact k518 | exact k519 | exact k520 | exact k521 | exact k522 | exact k523 | exact k524 | exact k525 | exact k526 | exact k527 | exact k528 | exact k510 | exact k512 | exact k515 | exact k516 | exact k507 | exact k509 | exact k135 | exact k489 | exact k529 | exact k530) (rfl) (q := 11) dX12_seatCount_10 rfl (by omega) (by omega) ?_
  refine zr_ireturn dX12_seatCount_11 rfl (z_fit_i _) ?_
  exact ⟨rfl, rfl, rfl⟩
theorem s_X12_isConsistent  : z_Call mX12_isConsistent zF [(1, 517)] M (zpF 0 (1) (z_up M 517 7 0)) := by
  refine z_enter (k := 0) rfl rfl rfl ?_
  refine zp_al0 (q := 1) dX12_isConsistent_0 rfl ?_
  refine zr_iconst (q := 2) dX12_isConsistent_1 rfl (z_in_of rfl) ?_
  refine zf_putG 7 (k517) rfl fpX12_52 (q := 5) dX12_isConsistent_2 rfl rfl (by decide) (z_fit_i _) ?_
  refine zr_iconst (q := 6) dX12_isConsistent_5 rfl (z_in_of rfl) ?_
  refine zr_ireturn dX12_isConsistent_6 rfl (z_fit_z (by decide)) ?_
  exact ⟨rfl, rfl, rfl⟩
theorem s_X12_standingCount (H : zHm M) (hG : zWF (M 518)) : z_Call mX12_standingCount zF [(1, 517)] M (zpF 0 (zSt (M 518)) (z_up M 517 7 0)) := by
  refine z_enter (k := 0) rfl rfl rfl ?_
  refine zp_al0 (q := 1) dX12_standingCount_0 rfl ?_
  refine zr_iconst (q := 2) dX12_standingCount_1 rfl (z_in_of rfl) ?_
  refine zf_putG 7 (k517) rfl fpX12_52 (q := 5) dX12_standingCount_2 rfl rfl (by decide) (z_fit_i _) ?_
  refine zp_al0 (q := 6) dX12_standingCount_5 rfl ?_
  refine zf_callV0 (k517) (s_X12_standing H.c hG.c) mtX12_standing wiX12_standing weX12_standing wlX12_84 (q := 9) dX12_standingCount_6 rfl rfl rfl rfl rfl rfl rfl (fun r S9 M9 h8 hP => ?_) (fun k S9 M9 hP => (z_no hP.1 rfl).elim)
  obtain ⟨rfl, rfl, h9⟩ := hP
  subst M9
  refine zr_ireturn dX12_standingCount_9 rfl (z_fit_i _) ?_
  exact ⟨rfl, rfl, rfl⟩
theorem s_X12_totalWeight (H : zHm M) (hG : zWF (M 518)) : z_Call mX12_totalWeight zF [(1, 517)] M (zpF 0 (zTot (M 518)) (z_up M 517 7 0)) := by
  refine z_enter (k := 0) rfl rfl rfl ?_
  refine zp_al0 (q := 1) dX12_totalWeight_0 rfl ?_
  refine zr_iconst (q := 2) dX12_totalWeight_1 rfl (z_in_of rfl) ?_
  refine zf_putG 7 (k517) rfl fpX12_52 (q := 5) dX12_totalWeight_2 rfl rfl (by decide) (z_fit_i _) ?_
  refine zp_al0 (q := 6) dX12_totalWeight_5 rfl ?_
  refine zf_callV0 (k517) (s_X12_total H.c hG.c) mtX12_total wiX12_total weX12_total wlX12_107 (q := 9) dX12_totalWeight_6 rfl rfl rfl rfl rfl rfl rfl (fun r S9 M9 h8 hP => ?_) (fun k S9 M9 hP => (z_no hP.1 rfl).elim)
  obtain ⟨rfl, rfl, h9⟩ := hP
  subst M9
  refine zr_ireturn dX12_totalWeight_9 rfl (z_fit_i _) ?_
  exact ⟨rfl, rfl, rfl⟩
theorem s_X12_isStanding (H : zHm M) (hG : zWF (M 518)) {w : Int} (hw : 0 ≤ w ∧ w < M 518 0) : z_Call mX12_isStanding zF [(1, 517), (0, w)] M (zpF 0 (if M 518 (4 + w) = 0 then 1 else 0) (z_up M 517 7 0)) := by
  have hg := hG.w
  refine z_enter (k := 0) rfl rfl rfl ?_
  refine zp_al0 (q := 1) dX12_isStanding_0 rfl ?_
  refine zp_il1 (q := 2) dX12_isStanding_1 rfl ?_
  refine zf_callV1 (k517) (s_X12_isNone H hG) mtX12_isNone wiX12_isNone weX12_isNone wlX12_88 (q := 5) dX12_isStanding_2 rfl rfl rfl rfl rfl rfl rfl (fun r S9 M9 h8 hP => ?_) (fun k S9 M9 hP => (z_no hP.1 rfl).elim)
  obtain ⟨rfl, rfl, h9⟩ := hP
  subst M9
  rw [if_pos hw]
  refine zr_if_ne (q := 20) (q2 := 8) dX12_isStanding_5 (by decide) rfl (fun h5 => ?_) (fun h5 => ?_)
  · exact absurd rfl h5
  · refine zp_al0 (q := 9) dX12_isStanding_8 rfl ?_
    refine zp_il1 (q := 10) dX12_isStanding_9 rfl ?_
    refine zf_callV1 (k517) (s_X12_stands H.c hw.1 (by omega)) mtX12_stands wiX12_stands weX12_stands wlX12_70 (q := 13) dX12_isStanding_10 rfl rfl rfl rfl rfl rfl rfl (fun r S9 M9 h8 hP => ?_) (fun k S9 M9 hP => (z_no hP.1 rfl).elim)
    obtain ⟨rfl, rfl, h9⟩ := hP
    subst M9
    refine zr_if_eq (q := 20) (q2 := 16) dX12_isStanding_13 (by decide) rfl (fun h13 => ?_) (fun h13 => ?_)
    · refine zr_iconst (q := 21) dX12_isStanding_20 rfl (z_in_of rfl) ?_
      refine zr_ireturn dX12_isStanding_21 rfl (z_fit_z (by decide)) ?_
      have e : ¬ M 518 (4 + w) = 0 := fun e => absurd ((if_pos e).symm.trans h13) (by decide)
      exact ⟨by rw [if_neg e], rfl, rfl⟩
    · refine zr_iconst (q := 17) dX12_isStanding_16 rfl (z_in_of rfl) ?_
      refine zr_goto (q := 21) dX12_isStanding_17 (by decide) ?_
      refine zr_ireturn dX12_isStanding_21 rfl (z_fit_z (by decide)) ?_
      have e : M 518 (4 + w) = 0 := Classical.byContradiction fun e => h13 (if_neg e)
      exact ⟨by rw [if_pos e], rfl, rfl⟩
theorem s_X12_isStanding_x (H : zHm M) (hG : zWF (M 518)) {w : Int} (hw : ¬ (0 ≤ w ∧ w < M 518 0)) : z_Call mX12_isStanding zF [(1, 517), (0, w)] M (zpF 0 (0) (z_up M 517 7 1)) := by
  refine z_enter (k := 0) rfl rfl rfl ?_
  refine zp_al0 (q := 1) dX12_isStanding_0 rfl ?_
  refine zp_il1 (q := 2) dX12_isStanding_1 rfl ?_
  refine zf_callV1 (k517) (s_X12_isNone H hG) mtX12_isNone wiX12_isNone weX12_isNone wlX12_88 (q := 5) dX12_isStanding_2 rfl rfl rfl rfl rfl rfl rfl (fun r S9 M9 h8 hP => ?_) (fun k S9 M9 hP => (z_no hP.1 rfl).elim)
  obtain ⟨rfl, rfl, h9⟩ := hP
  subst M9
  rw [if_neg hw]
  refine zr_if_ne (q := 20) (q2 := 8) dX12_isStanding_5 (by decide) rfl (fun h5 => ?_) (fun h5 => ?_)
  · refine zr_iconst (q := 21) dX12_isStanding_20 rfl (z_in_of rfl) ?_
    refine zr_ireturn dX12_isStanding_21 rfl (z_fit_z (by decide)) ?_
    exact ⟨rfl, rfl, rfl⟩
  · exact absurd (by decide) h5
theorem s_X12_hasSeat (H : zHm M) (hG : zWF (M 518)) {w : Int} (hw : 0 ≤ w ∧ w < M 518 0) : z_Call mX12_hasSeat zF [(1, 517), (0, w)] M (zpF 0 (if M 518 (4 + w) = 2 then 1 else 0) (z_up M 517 7 0)) := by
  have hg := hG.w
  refine z_enter (k := 0) rfl rfl rfl ?_
  refine zp_al0 (q := 1) dX12_hasSeat_0 rfl ?_
  refine zp_il1 (q := 2) dX12_hasSeat_1 rfl ?_
  refine zf_callV1 (k517) (s_X12_isNone H hG) mtX12_isNone wiX12_isNone weX12_isNone wlX12_88 (q := 5) dX12_hasSeat_2 rfl rfl rfl rfl rfl rfl rfl (fun r S9 M9 h8 hP => ?_) (fun k S9 M9 hP => (z_no hP.1 rfl).elim)
  obtain ⟨rfl, rfl, h9⟩ := hP
  subst M9
  rw [if_pos hw]
  refine zr_if_ne (q := 24) (q2 := 8) dX12_hasSeat_5 (by decide) rfl (fun h5 => ?_) (fun h5 => ?_)
  · exact absurd rfl h5
  · refine zp_al0 (q := 9) dX12_hasSeat_8 rfl ?_
    refine zf_getG (v := 518) 0 (k517) (H.1) rfl fdX12_7 (q := 12) dX12_hasSeat_9 rfl rfl ?_
    refine zr_iconst (q := 13) dX12_hasSeat_12 rfl (z_in_of rfl) ?_
    refine zp_il1 (q := 14) dX12_hasSeat_13 rfl ?_
    refine zr_iadd (q := 15) dX12_hasSeat_14 rfl (fun hA hB => by unfold z_in at hA hB ⊢; omega) ?_
    refine zf_iald (v := M 518 (4 + w)) (by first | assumption | exact k518 | exact k519 | exact k520 | exact k521 | exact k522 | exact k523 | exact k524 | exact k525 | exact k526 | exact k527 | exact k528 | exact k510 | exact k512 | exact k515 | exact k516 | exact k507 | exact k509 | exact k135 | exact k489 | exact k529 | exact k530) (rfl) (q := 16) dX12_hasSeat_15 rfl (by omega) (by omega) ?_
    refine zr_iconst (q := 17) dX12_hasSeat_16 rfl (z_in_of rfl) ?_
    refine zr_icmp_ne (q := 24) (q2 := 20) dX12_hasSeat_17 (by decide) rfl (fun h17 => ?_) (fun h17 => ?_)
    · refine zr_iconst (q := 25) dX12_hasSeat_24 rfl (z_in_of rfl) ?_
      refine zr_ireturn dX12_hasSeat_25 rfl (z_fit_z (by decide)) ?_
      exact ⟨by first | rw [if_pos (by omega)] | rw [if_neg (by omega)], rfl, rfl⟩
    · refine zr_iconst (q := 21) dX12_hasSeat_20 rfl (z_in_of rfl) ?_
      refine zr_goto (q := 25) dX12_hasSeat_21 (by decide) ?_
      refine zr_ireturn dX12_hasSeat_25 rfl (z_fit_z (by decide)) ?_
      exact ⟨by first | rw [if_pos (by omega)] | rw [if_neg (by omega)], rfl, rfl⟩
theorem s_X12_hasSeat_x (H : zHm M) (hG : zWF (M 518)) {w : Int} (hw : ¬ (0 ≤ w ∧ w < M 518 0)) : z_Call mX12_hasSeat zF [(1, 517), (0, w)] M (zpF 0 (0) (z_up M 517 7 1)) := by
  refine z_enter (k := 0) rfl rfl rfl ?_
  refine zp_al0 (q := 1) dX12_hasSeat_0 rfl ?_
  refine zp_il1 (q := 2) dX12_hasSeat_1 rfl ?_
  refine zf_callV1 (k517) (s_X12_isNone H hG) mtX12_isNone wiX12_isNone weX12_isNone wlX12_88 (q := 5) dX12_hasSeat_2 rfl rfl rfl rfl rfl rfl rfl (fun r S9 M9 h8 hP => ?_) (fun k S9 M9 hP => (z_no hP.1 rfl).elim)
  obtain ⟨rfl, rfl, h9⟩ := hP
  subst M9
  rw [if_neg hw]
  refine zr_if_ne (q := 24) (q2 := 8) dX12_hasSeat_5 (by decide) rfl (fun h5 => ?_) (fun h5 => ?_)
  · refine zr_iconst (q := 25) dX12_hasSeat_24 rfl (z_in_of rfl) ?_
    refine zr_ireturn dX12_hasSeat_25 rfl (z_fit_z (by decide)) ?_
    exact ⟨rfl, rfl, rfl⟩
  · exact absurd (by decide) h5
theorem s_X12_weightOf (H : zHm M) (hG : zWF (M 518)) {b : Int} (hb : 0 ≤ b ∧ b < M 518 1) : z_Call mX12_weightOf zF [(1, 517), (0, b)] M (zpF 0 (M 518 (20 + 7 * b)) (z_up M 517 7 0)) := by
  have hn := hG.n
  refine z_enter (k := 0) rfl rfl rfl ?_
  refine zp_al0 (q := 1) dX12_weightOf_0 rfl ?_
  refine zp_il1 (q := 2) dX12_weightOf_1 rfl ?_
  refine zf_callV1 (k517) (s_X12_isLost H hG) mtX12_isLost wiX12_isLost weX12_isLost wlX12_104 (q := 5) dX12_weightOf_2 rfl rfl rfl rfl rfl rfl rfl (fun r S9 M9 h8 hP => ?_) (fun k S9 M9 hP => (z_no hP.1 rfl).elim)
  obtain ⟨rfl, rfl, h9⟩ := hP
  subst M9
  rw [if_pos hb]
  refine zr_if_eq (q := 12) (q2 := 8) dX12_weightOf_5 (by decide) rfl (fun h5 => ?_) (fun h5 => ?_)
  · refine zp_al0 (q := 13) dX12_weightOf_12 rfl ?_
    refine zp_il1 (q := 14) dX12_weightOf_13 rfl ?_
    refine zr_iconst (q := 15) dX12_weightOf_14 rfl (z_in_of rfl) ?_
    refine zf_callV2 (k517) (s_X12_of H.c hb.1 (by omega) (by omega) (by omega)) mtX12_of wiX12_of weX12_of wlX12_91 (q := 18) dX12_weightOf_15 rfl rfl rfl rfl rfl rfl rfl (fun r S9 M9 h8 hP => ?_) (fun k S9 M9 hP => (z_no hP.1 rfl).elim)
    obtain ⟨rfl, rfl, h9⟩ := hP
    subst M9
    rw [Int.add_zero]
    refine zr_ireturn dX12_weightOf_18 rfl (z_fit_i _) ?_
    exact ⟨rfl, rfl, rfl⟩
  · exact absurd rfl h5
theorem s_X12_weightOf_x (H : zHm M) (hG : zWF (M 518)) {b : Int} (hb : ¬ (0 ≤ b ∧ b < M 518 1)) : z_Call mX12_weightOf zF [(1, 517), (0, b)] M (zpF 0 (0) (z_up M 517 7 1)) := by
  refine z_enter (k := 0) rfl rfl rfl ?_
  refine zp_al0 (q := 1) dX12_weightOf_0 rfl ?_
  refine zp_il1 (q := 2) dX12_weightOf_1 rfl ?_
  refine zf_callV1 (k517) (s_X12_isLost H hG) mtX12_isLost wiX12_isLost weX12_isLost wlX12_104 (q := 5) dX12_weightOf_2 rfl rfl rfl rfl rfl rfl rfl (fun r S9 M9 h8 hP => ?_) (fun k S9 M9 hP => (z_no hP.1 rfl).elim)
  obtain ⟨rfl, rfl, h9⟩ := hP
  subst M9
  rw [if_neg hb]
  refine zr_if_eq (q := 12) (q2 := 8) dX12_weightOf_5 (by decide) rfl (fun h5 => ?_) (fun h5 => ?_)
  · exact absurd h5 (by decide)
  · refine zr_iconst (q := 9) dX12_weightOf_8 rfl (z_in_of rfl) ?_
    refine zr_goto (q := 18) dX12_weightOf_9 (by decide) ?_
    refine zr_ireturn dX12_weightOf_18 rfl (z_fit_i _) ?_
    exact ⟨rfl, rfl, rfl⟩
theorem s_X12_rankCount (H : zHm M) (hG : zWF (M 518)) {b : Int} (hb : 0 ≤ b ∧ b < M 518 1) : z_Call mX12_rankCount zF [(1, 517), (0, b)] M (zpF 0 (M 518 (20 + 7 * b + 1)) (z_up M 517 7 0)) := by
  have hn := hG.n
  refine z_enter (k := 0) rfl rfl rfl ?_
  refine zp_al0 (q := 1) dX12_rankCount_0 rfl ?_
  refine zp_il1 (q := 2) dX12_rankCount_1 rfl ?_
  refine zf_callV1 (k517) (s_X12_isLost H hG) mtX12_isLost wiX12_isLost weX12_isLost wlX12_104 (q := 5) dX12_rankCount_2 rfl rfl rfl rfl rfl rfl rfl (fun r S9 M9 h8 hP => ?_) (fun k S9 M9 hP => (z_no hP.1 rfl).elim)
  obtain ⟨rfl, rfl, h9⟩ := hP
  subst M9
  rw [if_pos hb]
  refine zr_if_eq (q := 12) (q2 := 8) dX12_rankCount_5 (by decide) rfl (fun h5 => ?_) (fun h5 => ?_)
  · refine zp_al0 (q := 13) dX12_rankCount_12 rfl ?_
    refine zp_il1 (q := 14) dX12_rankCount_13 rfl ?_
    refine zr_iconst (q := 15) dX12_rankCount_14 rfl (z_in_of rfl) ?_
    refine zf_callV2 (k517) (s_X12_of H.c hb.1 (by omega) (by omega) (by omega)) mtX12_of wiX12_of weX12_of wlX12_91 (q := 18) dX12_rankCount_15 rfl rfl rfl rfl rfl rfl rfl (fun r S9 M9 h8 hP => ?_) (fun k S9 M9 hP => (z_no hP.1 rfl).elim)
    obtain ⟨rfl, rfl, h9⟩ := hP
    subst M9
    refine zr_ireturn dX12_rankCount_18 rfl (z_fit_i _) ?_
    exact ⟨rfl, rfl, rfl⟩
  · exact absurd rfl h5
theorem s_X12_rankCount_x (H : zHm M) (hG : zWF (M 518)) {b : Int} (hb : ¬ (0 ≤ b ∧ b < M 518 1)) : z_Call mX12_rankCount zF [(1, 517), (0, b)] M (zpF 0 (0) (z_up M 517 7 1)) := by
  refine z_enter (k := 0) rfl rfl rfl ?_
  refine zp_al0 (q := 1) dX12_rankCount_0 rfl ?_
  refine zp_il1 (q := 2) dX12_rankCount_1 rfl ?_
  refine zf_callV1 (k517) (s_X12_isLost H hG) mtX12_isLost wiX12_isLost weX12_isLost wlX12_104 (q := 5) dX12_rankCount_2 rfl rfl rfl rfl rfl rfl rfl (fun r S9 M9 h8 hP => ?_) (fun k S9 M9 hP => (z_no hP.1 rfl).elim)
  obtain ⟨rfl, rfl, h9⟩ := hP
  subst M9
  rw [if_neg hb]
  refine zr_if_eq (q := 12) (q2 := 8) dX12_rankCount_5 (by decide) rfl (fun h5 => ?_) (fun h5 => ?_)
  · exact absurd h5 (by decide)
  · refine zr_iconst (q := 9) dX12_rankCount_8 rfl (z_in_of rfl) ?_
    refine zr_goto (q := 18) dX12_rankCount_9 (by decide) ?_
    refine zr_ireturn dX12_rankCount_18 rfl (z_fit_i _) ?_
    exact ⟨rfl, rfl, rfl⟩
theorem s_X12_windAt (H : zHm M) (hG : zWF (M 518)) {b : Int} (hb : 0 ≤ b ∧ b < M 518 1) {k : Int} (hk : 0 ≤ k ∧ k < M 518 (20 + 7 * b + 1)) : z_Call mX12_windAt zF [(1, 517), (0, b), (0, k)] M (zpF 0 (M 518 (20 + 7 * b + 2 + k)) (z_up M 517 7 0)) := by
  have hn := hG.n
  have hz := hG.sz hb.1 hb.2
  refine z_enter (k := 0) rfl rfl rfl ?_
  refine zp_al0 (q := 1) dX12_windAt_0 rfl ?_
  refine zp_al0 (q := 2) dX12_windAt_1 rfl ?_
  refine zp_il1 (q := 3) dX12_windAt_2 rfl ?_
  refine zf_callV1 (k517) (s_X12_isBallot H hG) mtX12_isBallot wiX12_isBallot weX12_isBallot wlX12_95 (q := 6) dX12_windAt_3 rfl rfl rfl rfl rfl rfl rfl (fun r S9 M9 h8 hP => ?_) (fun k S9 M9 hP => (z_no hP.1 rfl).elim)
  obtain ⟨rfl, rfl, h9⟩ := hP
  subst M9
  rw [if_pos hb]
  refine zr_if_ne (q := 13) (q2 := 9) dX12_windAt_6 (by decide) rfl (fun h6 => ?_) (fun h6 => ?_)
  · refine zp_il2 (q := 14) dX12_windAt_13 rfl ?_
    refine zr_iconst (q := 15) dX12_windAt_14 rfl (z_in_of rfl) ?_
    refine zp_al0 (q := 16) dX12_windAt_15 rfl ?_
    refine zp_il1 (q := 17) dX12_windAt_16 rfl ?_
    refine zr_iconst (q := 18) dX12_windAt_17 rfl (z_in_of rfl) ?_
    refine zf_callV2 (k517) (s_X12_of H hb.1 (by omega) (by omega) (by omega)) mtX12_of wiX12_of weX12_of wlX12_91 (q := 21) dX12_windAt_18 rfl rfl rfl rfl rfl rfl rfl (fun r S9 M9 h8 hP => ?_) (fun k S9 M9 hP => (z_no hP.1 rfl).elim)
    obtain ⟨rfl, rfl, h9⟩ := hP
    subst M9
    refine zr_iconst (q := 22) dX12_windAt_21 rfl (z_in_of rfl) ?_
    refine zr_isub (q := 23) dX12_windAt_22 rfl (fun hA hB => by unfold z_in at hA hB ⊢; omega) ?_
    refine zp_callS3 (s_X12_in) mtX12_in wtX12_in wlX12_66 (q := 26) dX12_windAt_23 rfl rfl rfl rfl rfl (fun r S9 M9 h8 hP => ?_) (fun k S9 M9 hP => (z_no hP.1 rfl).elim)
    obtain ⟨rfl, rfl, h9⟩ := hP
    subst M9
    rw [if_pos (by omega)]
    refine zr_if_eq (q := 33) (q2 := 29) dX12_windAt_26 (by decide) rfl (fun h26 => ?_) (fun h26 => ?_)
    · exact absurd h26 (by decide)
    · refine zr_iconst (q := 30) dX12_windAt_29 rfl (z_in_of rfl) ?_
      refine zr_goto (q := 34) dX12_windAt_30 (by decide) ?_
      refine zf_callV1 (k517) (s_X12_fails) mtX12_fails wiX12_fails weX12_fails wlX12_77 (q := 37) dX12_windAt_34 rfl rfl rfl rfl rfl rfl rfl (fun r S9 M9 h8 hP => ?_) (fun k S9 M9 hP => (z_no hP.1 rfl).elim)
      obtain ⟨rfl, rfl, h9⟩ := hP
      subst M9
      refine zr_if_eq (q := 44) (q2 := 40) dX12_windAt_37 (by decide) rfl (fun h37 => ?_) (fun h37 => ?_)
      · refine zp_al0 (q := 45) dX12_windAt_44 rfl ?_
        refine zp_il1 (q := 46) dX12_windAt_45 rfl ?_
        refine zr_iconst (q := 47) dX12_windAt_46 rfl (z_in_of rfl) ?_
        refine zp_il2 (q := 48) dX12_windAt_47 rfl ?_
        refine zr_iadd (q := 49) dX12_windAt_48 rfl (fun hA hB => by unfold z_in at hA hB ⊢; omega) ?_
        refine zf_callV2 (k517) (s_X12_of H.c hb.1 (by omega) (by omega) (by omega)) mtX12_of wiX12_of weX12_of wlX12_91 (q := 52) dX12_windAt_49 rfl rfl rfl rfl rfl rfl rfl (fun r S9 M9 h8 hP => ?_) (fun k S9 M9 hP => (z_no hP.1 rfl).elim)
        obtain ⟨rfl, rfl, h9⟩ := hP
        subst M9
        rw [show 20 + 7 * b + (2 + k) = 20 + 7 * b + 2 + k by omega]
        refine zr_ireturn dX12_windAt_52 rfl (z_fit_i _) ?_
        exact ⟨rfl, rfl, rfl⟩
      · exact absurd h37 (by decide)
  · exact absurd (by decide) h6
theorem s_X12_windAt_x (H : zHm M) (hG : zWF (M 518)) {b : Int} (hb : ¬ (0 ≤ b ∧ b < M 518 1)) {k : Int} : z_Call mX12_windAt zF [(1, 517), (0, b), (0, k)] M (zpF 0 (0) (z_up M 517 7 1)) := by
  refine z_enter (k := 0) rfl rfl rfl ?_
  refine zp_al0 (q := 1) dX12_windAt_0 rfl ?_
  refine zp_al0 (q := 2) dX12_windAt_1 rfl ?_
  refine zp_il1 (q := 3) dX12_windAt_2 rfl ?_
  refine zf_callV1 (k517) (s_X12_isBallot H hG) mtX12_isBallot wiX12_isBallot weX12_isBallot wlX12_95 (q := 6) dX12_windAt_3 rfl rfl rfl rfl rfl rfl rfl (fun r S9 M9 h8 hP => ?_) (fun k S9 M9 hP => (z_no hP.1 rfl).elim)
  obtain ⟨rfl, rfl, h9⟩ := hP
  subst M9
  rw [if_neg hb]
  refine zr_if_ne (q := 13) (q2 := 9) dX12_windAt_6 (by decide) rfl (fun h6 => ?_) (fun h6 => ?_)
  · exact absurd rfl h6
  · refine zr_iconst (q := 10) dX12_windAt_9 rfl (z_in_of rfl) ?_
    refine zr_goto (q := 34) dX12_windAt_10 (by decide) ?_
    refine zf_callV1 (k517) (s_X12_fails) mtX12_fails wiX12_fails weX12_fails wlX12_77 (q := 37) dX12_windAt_34 rfl rfl rfl rfl rfl rfl rfl (fun r S9 M9 h8 hP => ?_) (fun k S9 M9 hP => (z_no hP.1 rfl).elim)
    obtain ⟨rfl, rfl, h9⟩ := hP
    subst M9
    refine zr_if_eq (q := 44) (q2 := 40) dX12_windAt_37 (by decide) rfl (fun h37 => ?_) (fun h37 => ?_)
    · exact absurd h37 (by decide)
    · refine zr_iconst (q := 41) dX12_windAt_40 rfl (z_in_of rfl) ?_
      refine zr_goto (q := 52) dX12_windAt_41 (by decide) ?_
      refine zr_ireturn dX12_windAt_52 rfl (z_fit_i _) ?_
      exact ⟨rfl, rfl, rfl⟩
theorem s_X12_windAt_y (H : zHm M) (hG : zWF (M 518)) {b : Int} (hb : 0 ≤ b ∧ b < M 518 1) {k : Int} (hk : ¬ (0 ≤ k ∧ k < M 518 (20 + 7 * b + 1))) : z_Call mX12_windAt zF [(1, 517), (0, b), (0, k)] M (zpF 0 (0) (z_up M 517 7 2)) := by
  have hn := hG.n
  have hz := hG.sz hb.1 hb.2
  refine z_enter (k := 0) rfl rfl rfl ?_
  refine zp_al0 (q := 1) dX12_windAt_0 rfl ?_
  refine zp_al0 (q := 2) dX12_windAt_1 rfl ?_
  refine zp_il1 (q := 3) dX12_windAt_2 rfl ?_
  refine zf_callV1 (k517) (s_X12_isBallot H hG) mtX12_isBallot wiX12_isBallot weX12_isBallot wlX12_95 (q := 6) dX12_windAt_3 rfl rfl rfl rfl rfl rfl rfl (fun r S9 M9 h8 hP => ?_) (fun k S9 M9 hP => (z_no hP.1 rfl).elim)
  obtain ⟨rfl, rfl, h9⟩ := hP
  subst M9
  rw [if_pos hb]
  refine zr_if_ne (q := 13) (q2 := 9) dX12_windAt_6 (by decide) rfl (fun h6 => ?_) (fun h6 => ?_)
  · refine zp_il2 (q := 14) dX12_windAt_13 rfl ?_
    refine zr_iconst (q := 15) dX12_windAt_14 rfl (z_in_of rfl) ?_
    refine zp_al0 (q := 16) dX12_windAt_15 rfl ?_
    refine zp_il1 (q := 17) dX12_windAt_16 rfl ?_
    refine zr_iconst (q := 18) dX12_windAt_17 rfl (z_in_of rfl) ?_
    refine zf_callV2 (k517) (s_X12_of H hb.1 (by omega) (by omega) (by omega)) mtX12_of wiX12_of weX12_of wlX12_91 (q := 21) dX12_windAt_18 rfl rfl rfl rfl rfl rfl rfl (fun r S9 M9 h8 hP => ?_) (fun k S9 M9 hP => (z_no hP.1 rfl).elim)
    obtain ⟨rfl, rfl, h9⟩ := hP
    subst M9
    refine zr_iconst (q := 22) dX12_windAt_21 rfl (z_in_of rfl) ?_
    refine zr_isub (q := 23) dX12_windAt_22 rfl (fun hA hB => by unfold z_in at hA hB ⊢; omega) ?_
    refine zp_callS3 (s_X12_in) mtX12_in wtX12_in wlX12_66 (q := 26) dX12_windAt_23 rfl rfl rfl rfl rfl (fun r S9 M9 h8 hP => ?_) (fun k S9 M9 hP => (z_no hP.1 rfl).elim)
    obtain ⟨rfl, rfl, h9⟩ := hP
    subst M9
    rw [if_neg (by omega)]
    refine zr_if_eq (q := 33) (q2 := 29) dX12_windAt_26 (by decide) rfl (fun h26 => ?_) (fun h26 => ?_)
    · refine zr_iconst (q := 34) dX12_windAt_33 rfl (z_in_of rfl) ?_
      refine zf_callV1 (k517) (s_X12_fails) mtX12_fails wiX12_fails weX12_fails wlX12_77 (q := 37) dX12_windAt_34 rfl rfl rfl rfl rfl rfl rfl (fun r S9 M9 h8 hP => ?_) (fun k S9 M9 hP => (z_no hP.1 rfl).elim)
      obtain ⟨rfl, rfl, h9⟩ := hP
      subst M9
      refine zr_if_eq (q := 44) (q2 := 40) dX12_windAt_37 (by decide) rfl (fun h37 => ?_) (fun h37 => ?_)
      · exact absurd h37 (by decide)
      · refine zr_iconst (q := 41) dX12_windAt_40 rfl (z_in_of rfl) ?_
        refine zr_goto (q := 52) dX12_windAt_41 (by decide) ?_
        refine zr_ireturn dX12_windAt_52 rfl (z_fit_i _) ?_
        exact ⟨rfl, rfl, rfl⟩
    · exact absurd rfl h26
  · exact absurd (by decide) h6
theorem s_X12_rankOf (H : zHm M) (hG : zWF (M 518)) {b : Int} (hb : 0 ≤ b ∧ b < M 518 1) {w : Int} (hw : 0 ≤ w ∧ w < M 518 0) (hp : zPl (M 518) b w ≠ -1) : z_Call mX12_rankOf zF [(1, 517), (0, b), (0, w)] M (zpF 0 (zPl (M 518) b w) (z_up M 517 7 0)) := by
  have hp9 := zPl_range hG hb.1 hb.2 w
  refine z_enter (k := 0) rfl rfl rfl ?_
  refine zp_al0 (q := 1) dX12_rankOf_0 rfl ?_
  refine zp_al0 (q := 2) dX12_rankOf_1 rfl ?_
  refine zp_il1 (q := 3) dX12_rankOf_2 rfl ?_
  refine zf_callV1 (k517) (s_X12_isBallot H hG) mtX12_isBallot wiX12_isBallot weX12_isBallot wlX12_95 (q := 6) dX12_rankOf_3 rfl rfl rfl rfl rfl rfl rfl (fun r S9 M9 h8 hP => ?_) (fun k S9 M9 hP => (z_no hP.1 rfl).elim)
  obtain ⟨rfl, rfl, h9⟩ := hP
  subst M9
  rw [if_pos hb]
  refine zr_if_eq (q := 17) (q2 := 9) dX12_rankOf_6 (by decide) rfl (fun h6 => ?_) (fun h6 => ?_)
  · exact absurd h6 (by decide)
  · refine zp_al0 (q := 10) dX12_rankOf_9 rfl ?_
    refine zp_il2 (q := 11) dX12_rankOf_10 rfl ?_
    refine zf_callV1 (k517) (s_X12_isWind H hG.w) mtX12_isWind wiX12_isWind weX12_isWind wlX12_74 (q := 14) dX12_rankOf_11 rfl rfl rfl rfl rfl rfl rfl (fun r S9 M9 h8 hP => ?_) (fun k S9 M9 hP => (z_no hP.1 rfl).elim)
    obtain ⟨rfl, rfl, h9⟩ := hP
    subst M9
    rw [if_pos hw]
    refine zr_if_ne (q := 21) (q2 := 17) dX12_rankOf_14 (by decide) rfl (fun h14 => ?_) (fun h14 => ?_)
    · refine zp_al0 (q := 22) dX12_rankOf_21 rfl ?_
      refine zp_il1 (q := 23) dX12_rankOf_22 rfl ?_
      refine zp_il2 (q := 24) dX12_rankOf_23 rfl ?_
      refine zf_callV2 (k517) (s_X12_ranked H hG hb.1 hb.2) mtX12_ranked wiX12_ranked weX12_ranked wlX12_101 (q := 27) dX12_rankOf_24 rfl rfl rfl rfl rfl rfl rfl (fun r S9 M9 h8 hP => ?_) (fun k S9 M9 hP => (z_no hP.1 rfl).elim)
      obtain ⟨rfl, rfl, h9⟩ := hP
      subst M9
      refine zr_if_ge (q := 34) (q2 := 30) dX12_rankOf_27 (by decide) rfl (fun h27 => ?_) (fun h27 => ?_)
      · refine zr_iconst (q := 35) dX12_rankOf_34 rfl (z_in_of rfl) ?_
        refine zf_callV1 (k517) (s_X12_fails) mtX12_fails wiX12_fails weX12_fails wlX12_77 (q := 38) dX12_rankOf_35 rfl rfl rfl rfl rfl rfl rfl (fun r S9 M9 h8 hP => ?_) (fun k S9 M9 hP => (z_no hP.1 rfl).elim)
        obtain ⟨rfl, rfl, h9⟩ := hP
        subst M9
        refine zr_if_eq (q := 45) (q2 := 41) dX12_rankOf_38 (by decide) rfl (fun h38 => ?_) (fun h38 => ?_)
        · refine zp_al0 (q := 46) dX12_rankOf_45 rfl ?_
          refine zp_il1 (q := 47) dX12_rankOf_46 rfl ?_
          refine zp_il2 (q := 48) dX12_rankOf_47 rfl ?_
          refine zf_callV2 (k517) (s_X12_ranked H.c hG.c hb.1 hb.2) mtX12_ranked wiX12_ranked weX12_ranked wlX12_101 (q := 51) dX12_rankOf_48 rfl rfl rfl rfl rfl rfl rfl (fun r S9 M9 h8 hP => ?_) (fun k S9 M9 hP => (z_no hP.1 rfl).elim)
          obtain ⟨rfl, rfl, h9⟩ := hP
          subst M9
          refine zr_ireturn dX12_rankOf_51 rfl (z_fit_i _) ?_
          exact ⟨rfl, rfl, rfl⟩
        · exact absurd h38 (by decide)
      · exact absurd (show (0 : Int) ≤ zPl (M 518) b w by omega) h27
    · exact absurd (by decide) h14
theorem s_X12_rankOf_x (H : zHm M) (hG : zWF (M 518)) {b w : Int} (hb : ¬ (0 ≤ b ∧ b < M 518 1)) : z_Call mX12_rankOf zF [(1, 517), (0, b), (0, w)] M (zpF 0 (0) (z_up M 517 7 1)) := by
  refine z_enter (k := 0) rfl rfl rfl ?_
  refine zp_al0 (q := 1) dX12_rankOf_0 rfl ?_
  refine zp_al0 (q := 2) dX12_rankOf_1 rfl ?_
  refine zp_il1 (q := 3) dX12_rankOf_2 rfl ?_
  refine zf_callV1 (k517) (s_X12_isBallot H hG) mtX12_isBallot wiX12_isBallot weX12_isBallot wlX12_95 (q := 6) dX12_rankOf_3 rfl rfl rfl rfl rfl rfl rfl (fun r S9 M9 h8 hP => ?_) (fun k S9 M9 hP => (z_no hP.1 rfl).elim)
  obtain ⟨rfl, rfl, h9⟩ := hP
  subst M9
  rw [if_neg hb]
  refine zr_if_eq (q := 17) (q2 := 9) dX12_rankOf_6 (by decide) rfl (fun h6 => ?_) (fun h6 => ?_)
  · refine zr_iconst (q := 18) dX12_rankOf_17 rfl (z_in_of rfl) ?_
    refine zr_goto (q := 35) dX12_rankOf_18 (by decide) ?_
    refine zf_callV1 (k517) (s_X12_fails) mtX12_fails wiX12_fails weX12_fails wlX12_77 (q := 38) dX12_rankOf_35 rfl rfl rfl rfl rfl rfl rfl (fun r S9 M9 h8 hP => ?_) (fun k S9 M9 hP => (z_no hP.1 rfl).elim)
    obtain ⟨rfl, rfl, h9⟩ := hP
    subst M9
    refine zr_if_eq (q := 45) (q2 := 41) dX12_rankOf_38 (by decide) rfl (fun h38 => ?_) (fun h38 => ?_)
    · exact absurd h38 (by decide)
    · refine zr_iconst (q := 42) dX12_rankOf_41 rfl (z_in_of rfl) ?_
      refine zr_goto (q := 51) dX12_rankOf_42 (by decide) ?_
      refine zr_ireturn dX12_rankOf_51 rfl (z_fit_i _) ?_
      exact ⟨rfl, rfl, rfl⟩
  · exact absurd rfl h6
theorem s_X12_rankOf_y (H : zHm M) (hG : zWF (M 518)) {b : Int} (hb : 0 ≤ b ∧ b < M 518 1) {w : Int} (hw : ¬ (0 ≤ w ∧ w < M 518 0)) : z_Call mX12_rankOf zF [(1, 517), (0, b), (0, w)] M (zpF 0 (0) (z_up M 517 7 1)) := by
  refine z_enter (k := 0) rfl rfl rfl ?_
  refine zp_al0 (q := 1) dX12_rankOf_0 rfl ?_
  refine zp_al0 (q := 2) dX12_rankOf_1 rfl ?_
  refine zp_il1 (q := 3) dX12_rankOf_2 rfl ?_
  refine zf_callV1 (k517) (s_X12_isBallot H hG) mtX12_isBallot wiX12_isBallot weX12_isBallot wlX12_95 (q := 6) dX12_rankOf_3 rfl rfl rfl rfl rfl rfl rfl (fun r S9 M9 h8 hP => ?_) (fun k S9 M9 hP => (z_no hP.1 rfl).elim)
  obtain ⟨rfl, rfl, h9⟩ := hP
  subst M9
  rw [if_pos hb]
  refine zr_if_eq (q := 17) (q2 := 9) dX12_rankOf_6 (by decide) rfl (fun h6 => ?_) (fun h6 => ?_)
  · exact absurd h6 (by decide)
  · refine zp_al0 (q := 10) dX12_rankOf_9 rfl ?_
    refine zp_il2 (q := 11) dX12_rankOf_10 rfl ?_
    refine zf_callV1 (k517) (s_X12_isWind H hG.w) mtX12_isWind wiX12_isWind weX12_isWind wlX12_74 (q := 14) dX12_rankOf_11 rfl rfl rfl rfl rfl rfl rfl (fun r S9 M9 h8 hP => ?_) (fun k S9 M9 hP => (z_no hP.1 rfl).elim)
    obtain ⟨rfl, rfl, h9⟩ := hP
    subst M9
    rw [if_neg hw]
    refine zr_if_ne (q := 21) (q2 := 17) dX12_rankOf_14 (by decide) rfl (fun h14 => ?_) (fun h14 => ?_)
    · exact absurd rfl h14
    · refine zr_iconst (q := 18) dX12_rankOf_17 rfl (z_in_of rfl) ?_
      refine zr_goto (q := 35) dX12_rankOf_18 (by decide) ?_
      refine zf_callV1 (k517) (s_X12_fails) mtX12_fails wiX12_fails weX12_fails wlX12_77 (q := 38) dX12_rankOf_35 rfl rfl rfl rfl rfl rfl rfl (fun r S9 M9 h8 hP => ?_) (fun k S9 M9 hP => (z_no hP.1 rfl).elim)
      obtain ⟨rfl, rfl, h9⟩ := hP
      subst M9
      refine zr_if_eq (q := 45) (q2 := 41) dX12_rankOf_38 (by decide) rfl (fun h38 => ?_) (fun h38 => ?_)
      · exact absurd h38 (by decide)
      · refine zr_iconst (q := 42) dX12_rankOf_41 rfl (z_in_of rfl) ?_
        refine zr_goto (q := 51) dX12_rankOf_42 (by decide) ?_
        refine zr_ireturn dX12_rankOf_51 rfl (z_fit_i _) ?_
        exact ⟨rfl, rfl, rfl⟩
theorem s_X12_rankOf_z (H : zHm M) (hG : zWF (M 518)) {b : Int} (hb : 0 ≤ b ∧ b < M 518 1) {w : Int} (hw : 0 ≤ w ∧ w < M 518 0) (hp : zPl (M 518) b w = -1) : z_Call mX12_rankOf zF [(1, 517), (0, b), (0, w)] M (zpF 0 (0) (z_up M 517 7 2)) := by
  refine z_enter (k := 0) rfl rfl rfl ?_
  refine zp_al0 (q := 1) dX12_rankOf_0 rfl ?_
  refine zp_al0 (q := 2) dX12_rankOf_1 rfl ?_
  refine zp_il1 (q := 3) dX12_rankOf_2 rfl ?_
  refine zf_callV1 (k517) (s_X12_isBallot H hG) mtX12_isBallot wiX12_isBallot weX12_isBallot wlX12_95 (q := 6) dX12_rankOf_3 rfl rfl rfl rfl rfl rfl rfl (fun r S9 M9 h8 hP => ?_) (fun k S9 M9 hP => (z_no hP.1 rfl).elim)
  obtain ⟨rfl, rfl, h9⟩ := hP
  subst M9
  rw [if_pos hb]
  refine zr_if_eq (q := 17) (q2 := 9) dX12_rankOf_6 (by decide) rfl (fun h6 => ?_) (fun h6 => ?_)
  · exact absurd h6 (by decide)
  · refine zp_al0 (q := 10) dX12_rankOf_9 rfl ?_
    refine zp_il2 (q := 11) dX12_rankOf_10 rfl ?_
    refine zf_callV1 (k517) (s_X12_isWind H hG.w) mtX12_isWind wiX12_isWind weX12_isWind wlX12_74 (q := 14) dX12_rankOf_11 rfl rfl rfl rfl rfl rfl rfl (fun r S9 M9 h8 hP => ?_) (fun k S9 M9 hP => (z_no hP.1 rfl).elim)
    obtain ⟨rfl, rfl, h9⟩ := hP
    subst M9
    rw [if_pos hw]
    refine zr_if_ne (q := 21) (q2 := 17) dX12_rankOf_14 (by decide) rfl (fun h14 => ?_) (fun h14 => ?_)
    · refine zp_al0 (q := 22) dX12_rankOf_21 rfl ?_
      refine zp_il1 (q := 23) dX12_rankOf_22 rfl ?_
      refine zp_il2 (q := 24) dX12_rankOf_23 rfl ?_
      refine zf_callV2 (k517) (s_X12_ranked H hG hb.1 hb.2) mtX12_ranked wiX12_ranked weX12_ranked wlX12_101 (q := 27) dX12_rankOf_24 rfl rfl rfl rfl rfl rfl rfl (fun r S9 M9 h8 hP => ?_) (fun k S9 M9 hP => (z_no hP.1 rfl).elim)
      obtain ⟨rfl, rfl, h9⟩ := hP
      subst M9
      refine zr_if_ge (q := 34) (q2 := 30) dX12_rankOf_27 (by decide) rfl (fun h27 => ?_) (fun h27 => ?_)
      · exact absurd h27 (by rw [hp]; decide)
      · refine zr_iconst (q := 31) dX12_rankOf_30 rfl (z_in_of rfl) ?_
        refine zr_goto (q := 35) dX12_rankOf_31 (by decide) ?_
        refine zf_callV1 (k517) (s_X12_fails) mtX12_fails wiX12_fails weX12_fails wlX12_77 (q := 38) dX12_rankOf_35 rfl rfl rfl rfl rfl rfl rfl (fun r S9 M9 h8 hP => ?_) (fun k S9 M9 hP => (z_no hP.1 rfl).elim)
        obtain ⟨rfl, rfl, h9⟩ := hP
        subst M9
        refine zr_if_eq (q := 45) (q2 := 41) dX12_rankOf_38 (by decide) rfl (fun h38 => ?_) (fun h38 => ?_)
        · exact absurd h38 (by decide)
        · refine zr_iconst (q := 42) dX12_rankOf_41 rfl (z_in_of rfl) ?_
          refine zr_goto (q := 51) dX12_rankOf_42 (by decide) ?_
          refine zr_ireturn dX12_rankOf_51 rfl (z_fit_i _) ?_
          exact ⟨rfl, rfl, rfl⟩
    · exact absurd (by decide) h14
theorem zPrf_self (G : Int → Int) (w : Int) (hG : zWF G) : zPrf G w w = 0 := by
  unfold zPrf
  rw [zU_congr (g := fun _ => 0) hG.n.1 (fun k h0 h1 => by rw [if_neg (by omega)])]
  have := zU_le (f := fun _ => 0) (n := G 1) (lo := 0) (hi := 0) hG.n.1 (fun _ _ _ => by omega)
  omega
theorem s_X12_preference (H : zHm M) (hG : zWF (M 518)) {w o : Int} (hw : 0 ≤ w ∧ w < M 518 0) (ho : 0 ≤ o ∧ o < M 518 0) : z_Call mX12_preference zF [(1, 517), (0, w), (0, o)] M (zpF 0 (zPrf (M 518) w o) (z_up M 517 7 0)) := by
  refine z_enter (k := 0) rfl rfl rfl ?_
  refine zp_al0 (q := 1) dX12_preference_0 rfl ?_
  refine zp_il1 (q := 2) dX12_preference_1 rfl ?_
  refine zp_il2 (q := 3) dX12_preference_2 rfl ?_
  refine zf_callV2 (k517) (s_X12_areNone H hG) mtX12_areNone wiX12_areNone weX12_areNone wlX12_139 (q := 6) dX12_preference_3 rfl rfl rfl rfl rfl rfl rfl (fun r S9 M9 h8 hP => ?_) (fun k S9 M9 hP => (z_no hP.1 rfl).elim)
  obtain ⟨rfl, rfl, h9⟩ := hP
  subst M9
  rw [if_pos ⟨hw, ho⟩]
  refine zr_if_ne (q := 14) (q2 := 9) dX12_preference_6 (by decide) rfl (fun h6 => ?_) (fun h6 => ?_)
  · exact absurd rfl h6
  · refine zp_il1 (q := 10) dX12_preference_9 rfl ?_
    refine zp_il2 (q := 11) dX12_preference_10 rfl ?_
    refine zr_icmp_ne (q := 18) (q2 := 14) dX12_preference_11 (by decide) rfl (fun h11 => ?_) (fun h11 => ?_)
    · refine zp_al0 (q := 19) dX12_preference_18 rfl ?_
      refine zp_il1 (q := 20) dX12_preference_19 rfl ?_
      refine zp_il2 (q := 21) dX12_preference_20 rfl ?_
      refine zf_callV2 (k517) (s_X12_prefers H.c hG.c) mtX12_prefers wiX12_prefers weX12_prefers wlX12_143 (q := 24) dX12_preference_21 rfl rfl rfl rfl rfl rfl rfl (fun r S9 M9 h8 hP => ?_) (fun k S9 M9 hP => (z_no hP.1 rfl).elim)
      obtain ⟨rfl, rfl, h9⟩ := hP
      subst M9
      refine zr_ireturn dX12_preference_24 rfl (z_fit_i _) ?_
      exact ⟨rfl, rfl, rfl⟩
    · refine zr_iconst (q := 15) dX12_preference_14 rfl (z_in_of rfl) ?_
      refine zr_goto (q := 24) dX12_preference_15 (by decide) ?_
      refine zr_ireturn dX12_preference_24 rfl (z_fit_i _) ?_
      have e : w = o := Classical.byContradiction fun n => h11 n
      exact ⟨by rw [e, zPrf_self _ _ hG], rfl, rfl⟩
theorem s_X12_preference_x (H : zHm M) (hG : zWF (M 518)) {w o : Int} (hw : ¬ ((0 ≤ w ∧ w < M 518 0) ∧ 0 ≤ o ∧ o < M 518 0)) : z_Call mX12_preference zF [(1, 517), (0, w), (0, o)] M (zpF 0 (0) (z_up M 517 7 1)) := by
  refine z_enter (k := 0) rfl rfl rfl ?_
  refine zp_al0 (q := 1) dX12_preference_0 rfl ?_
  refine zp_il1 (q := 2) dX12_preference_1 rfl ?_
  refine zp_il2 (q := 3) dX12_preference_2 rfl ?_
  refine zf_callV2 (k517) (s_X12_areNone H hG) mtX12_areNone wiX12_areNone weX12_areNone wlX12_139 (q := 6) dX12_preference_3 rfl rfl rfl rfl rfl rfl rfl (fun r S9 M9 h8 hP => ?_) (fun k S9 M9 hP => (z_no hP.1 rfl).elim)
  obtain ⟨rfl, rfl, h9⟩ := hP
  subst M9
  rw [if_neg hw]
  refine zr_if_ne (q := 14) (q2 := 9) dX12_preference_6 (by decide) rfl (fun h6 => ?_) (fun h6 => ?_)
  · refine zr_iconst (q := 15) dX12_preference_14 rfl (z_in_of rfl) ?_
    refine zr_goto (q := 24) dX12_preference_15 (by decide) ?_
    refine zr_ireturn dX12_preference_24 rfl (z_fit_i _) ?_
    exact ⟨rfl, rfl, rfl⟩
  · exact absurd (by decide) h6
theorem s_X12_beats (H : zHm M) (hG : zWF (M 518)) {w o : Int} (hw : 0 ≤ w ∧ w < M 518 0) (ho : 0 ≤ o ∧ o < M 518 0) : z_Call mX12_beats zF [(1, 517), (0, w), (0, o)] M (zpF 0 (if zPrf (M 518) o w < zPrf (M 518) w o then 1 else 0) (z_up M 517 7 0)) := by
  refine z_enter (k := 0) rfl rfl rfl ?_
  refine zp_al0 (q := 1) dX12_beats_0 rfl ?_
  refine zp_il1 (q := 2) dX12_beats_1 rfl ?_
  refine zp_il2 (q := 3) dX12_beats_2 rfl ?_
  refine zf_callV2 (k517) (s_X12_areNone H hG) mtX12_areNone wiX12_areNone weX12_areNone wlX12_139 (q := 6) dX12_beats_3 rfl rfl rfl rfl rfl rfl rfl (fun r S9 M9 h8 hP => ?_) (fun k S9 M9 hP => (z_no hP.1 rfl).elim)
  obtain ⟨rfl, rfl, h9⟩ := hP
  subst M9
  rw [if_pos ⟨hw, ho⟩]
  refine zr_if_ne (q := 22) (q2 := 9) dX12_beats_6 (by decide) rfl (fun h6 => ?_) (fun h6 => ?_)
  · exact absurd rfl h6
  · refine zp_al0 (q := 10) dX12_beats_9 rfl ?_
    refine zp_il1 (q := 11) dX12_beats_10 rfl ?_
    refine zp_il2 (q := 12) dX12_beats_11 rfl ?_
    refine zf_callV2 (k517) (s_X12_isOver H.c hG.c) mtX12_isOver wiX12_isOver weX12_isOver wlX12_146 (q := 15) dX12_beats_12 rfl rfl rfl rfl rfl rfl rfl (fun r S9 M9 h8 hP => ?_) (fun k S9 M9 hP => (z_no hP.1 rfl).elim)
    obtain ⟨rfl, rfl, h9⟩ := hP
    subst M9
    refine zr_if_eq (q := 22) (q2 := 18) dX12_beats_15 (by decide) rfl (fun h15 => ?_) (fun h15 => ?_)
    · refine zr_iconst (q := 23) dX12_beats_22 rfl (z_in_of rfl) ?_
      refine zr_ireturn dX12_beats_23 rfl (z_fit_z (by decide)) ?_
      have e : ¬ zPrf (M 518) o w < zPrf (M 518) w o := fun e => absurd ((if_pos e).symm.trans h15) (by decide)
      exact ⟨by rw [if_neg e], rfl, rfl⟩
    · refine zr_iconst (q := 19) dX12_beats_18 rfl (z_in_of rfl) ?_
      refine zr_goto (q := 23) dX12_beats_19 (by decide) ?_
      refine zr_ireturn dX12_beats_23 rfl (z_fit_z (by decide)) ?_
      have e : zPrf (M 518) o w < zPrf (M 518) w o := Classical.byContradiction fun e => h15 (if_neg e)
      exact ⟨by rw [if_pos e], rfl, rfl⟩
theorem s_X12_beats_x (H : zHm M) (hG : zWF (M 518)) {w o : Int} (hw : ¬ ((0 ≤ w ∧ w < M 518 0) ∧ 0 ≤ o ∧ o < M 518 0)) : z_Call mX12_beats zF [(1, 517), (0, w), (0, o)] M (zpF 0 (0) (z_up M 517 7 1)) := by
  refine z_enter (k := 0) rfl rfl rfl ?_
  refine zp_al0 (q := 1) dX12_beats_0 rfl ?_
  refine zp_il1 (q := 2) dX12_beats_1 rfl ?_
  refine zp_il2 (q := 3) dX12_beats_2 rfl ?_
  refine zf_callV2 (k517) (s_X12_areNone H hG) mtX12_areNone wiX12_areNone weX12_areNone wlX12_139 (q := 6) dX12_beats_3 rfl rfl rfl rfl rfl rfl rfl (fun r S9 M9 h8 hP => ?_) (fun k S9 M9 hP => (z_no hP.1 rfl).elim)
  obtain ⟨rfl, rfl, h9⟩ := hP
  subst M9
  rw [if_neg hw]
  refine zr_if_ne (q := 22) (q2 := 9) dX12_beats_6 (by decide) rfl (fun h6 => ?_) (fun h6 => ?_)
  · refine zr_iconst (q := 23) dX12_beats_22 rfl (z_in_of rfl) ?_
    refine zr_ireturn dX12_beats_23 rfl (z_fit_z (by decide)) ?_
    exact ⟨rfl, rfl, rfl⟩
  · exact absurd (by decide) h6
theorem s_X12_victories (H : zHm M) (hG : zWF (M 518)) {w : Int} (hw : 0 ≤ w ∧ w < M 518 0) : z_Call mX12_victories zF [(1, 517), (0, w)] M (zpF 0 (zBt (M 518) w) (z_up M 517 7 0)) := by
  refine z_enter (k := 0) rfl rfl rfl ?_
  refine zp_al0 (q := 1) dX12_victories_0 rfl ?_
  refine zp_il1 (q := 2) dX12_victories_1 rfl ?_
  refine zf_callV1 (k517) (s_X12_isNone H hG) mtX12_isNone wiX12_isNone weX12_isNone wlX12_88 (q := 5) dX12_victories_2 rfl rfl rfl rfl rfl rfl rfl (fun r S9 M9 h8 hP => ?_) (fun k S9 M9 hP => (z_no hP.1 rfl).elim)
  obtain ⟨rfl, rfl, h9⟩ := hP
  subst M9
  rw [if_pos hw]
  refine zr_if_eq (q := 12) (q2 := 8) dX12_victories_5 (by decide) rfl (fun h5 => ?_) (fun h5 => ?_)
  · refine zp_al0 (q := 13) dX12_victories_12 rfl ?_
    refine zp_il1 (q := 14) dX12_victories_13 rfl ?_
    refine zf_callV1 (k517) (s_X12_beaten H.c hG.c) mtX12_beaten wiX12_beaten weX12_beaten wlX12_149 (q := 17) dX12_victories_14 rfl rfl rfl rfl rfl rfl rfl (fun r S9 M9 h8 hP => ?_) (fun k S9 M9 hP => (z_no hP.1 rfl).elim)
    obtain ⟨rfl, rfl, h9⟩ := hP
    subst M9
    refine zr_ireturn dX12_victories_17 rfl (z_fit_i _) ?_
    exact ⟨rfl, rfl, rfl⟩
  · exact absurd rfl h5
theorem s_X12_victories_x (H : zHm M) (hG : zWF (M 518)) {w : Int} (hw : ¬ (0 ≤ w ∧ w < M 518 0)) : z_Call mX12_victories zF [(1, 517), (0, w)] M (zpF 0 (0) (z_up M 517 7 1)) := by
  refine z_enter (k := 0) rfl rfl rfl ?_
  refine zp_al0 (q := 1) dX12_victories_0 rfl ?_
  refine zp_il1 (q := 2) dX12_victories_1 rfl ?_
  refine zf_callV1 (k517) (s_X12_isNone H hG) mtX12_isNone wiX12_isNone weX12_isNone wlX12_88 (q := 5) dX12_victories_2 rfl rfl rfl rfl rfl rfl rfl (fun r S9 M9 h8 hP => ?_) (fun k S9 M9 hP => (z_no hP.1 rfl).elim)
  obtain ⟨rfl, rfl, h9⟩ := hP
  subst M9
  rw [if_neg hw]
  refine zr_if_eq (q := 12) (q2 := 8) dX12_victories_5 (by decide) rfl (fun h5 => ?_) (fun h5 => ?_)
  · exact absurd h5 (by decide)
  · refine zr_iconst (q := 9) dX12_victories_8 rfl (z_in_of rfl) ?_
    refine zr_goto (q := 17) dX12_victories_9 (by decide) ?_
    refine zr_ireturn dX12_victories_17 rfl (z_fit_i _) ?_
    exact ⟨rfl, rfl, rfl⟩
theorem s_X12_scoreOf (H : zHm M) (hG : zWF (M 518)) {w : Int} (hw : 0 ≤ w ∧ w < M 518 0) : z_Call mX12_scoreOf zF [(1, 517), (0, w)] M (zpF 0 (zSc (M 518) w) (z_up M 517 7 0)) := by
  refine z_enter (k := 0) rfl rfl rfl ?_
  refine zp_al0 (q := 1) dX12_scoreOf_0 rfl ?_
  refine zp_il1 (q := 2) dX12_scoreOf_1 rfl ?_
  refine zf_callV1 (k517) (s_X12_isNone H hG) mtX12_isNone wiX12_isNone weX12_isNone wlX12_88 (q := 5) dX12_scoreOf_2 rfl rfl rfl rfl rfl rfl rfl (fun r S9 M9 h8 hP => ?_) (fun k S9 M9 hP => (z_no hP.1 rfl).elim)
  obtain ⟨rfl, rfl, h9⟩ := hP
  subst M9
  rw [if_pos hw]
  refine zr_if_eq (q := 12) (q2 := 8) dX12_scoreOf_5 (by decide) rfl (fun h5 => ?_) (fun h5 => ?_)
  · refine zp_al0 (q := 13) dX12_scoreOf_12 rfl ?_
    refine zp_il1 (q := 14) dX12_scoreOf_13 rfl ?_
    refine zf_callV1 (k517) (s_X12_score H.c hG.c) mtX12_score wiX12_score weX12_score wlX12_155 (q := 17) dX12_scoreOf_14 rfl rfl rfl rfl rfl rfl rfl (fun r S9 M9 h8 hP => ?_) (fun k S9 M9 hP => (z_no hP.1 rfl).elim)
    obtain ⟨rfl, rfl, h9⟩ := hP
    subst M9
    refine zr_ireturn dX12_scoreOf_17 rfl (z_fit_i _) ?_
    exact ⟨rfl, rfl, rfl⟩
  · exact absurd rfl h5
theorem s_X12_scoreOf_x (H : zHm M) (hG : zWF (M 518)) {w : Int} (hw : ¬ (0 ≤ w ∧ w < M 518 0)) : z_Call mX12_scoreOf zF [(1, 517), (0, w)] M (zpF 0 (0) (z_up M 517 7 1)) := by
  refine z_enter (k := 0) rfl rfl rfl ?_
  refine zp_al0 (q := 1) dX12_scoreOf_0 rfl ?_
  refine zp_il1 (q := 2) dX12_scoreOf_1 rfl ?_
  refine zf_callV1 (k517) (s_X12_isNone H hG) mtX12_isNone wiX12_isNone weX12_isNone wlX12_88 (q := 5) dX12_scoreOf_2 rfl rfl rfl rfl rfl rfl rfl (fun r S9 M9 h8 hP => ?_) (fun k S9 M9 hP => (z_no hP.1 rfl).elim)
  obtain ⟨rfl, rfl, h9⟩ := hP
  subst M9
  rw [if_neg hw]
  refine zr_if_eq (q := 12) (q2 := 8) dX12_scoreOf_5 (by decide) rfl (fun h5 => ?_) (fun h5 => ?_)
  · exact absurd h5 (by decide)
  · refine zr_iconst (q := 9) dX12_scoreOf_8 rfl (z_in_of rfl) ?_
    refine zr_goto (q := 17) dX12_scoreOf_9 (by decide) ?_
    refine zr_ireturn dX12_scoreOf_17 rfl (z_fit_i _) ?_
    exact ⟨rfl, rfl, rfl⟩
theorem s_X12_seatAt (H : zHm M) (hG : zWF (M 518)) {s : Int} (hs : 0 ≤ s ∧ s < M 518 3) : z_Call mX12_seatAt zF [(1, 517), (0, s)] M (zpF 0 (M 518 (12 + s)) (z_up M 517 7 0)) := by
  have h8 := hG.s8
  have hw := hG.w
  refine z_enter (k := 0) rfl rfl rfl ?_
  refine zp_al0 (q := 1) dX12_seatAt_0 rfl ?_
  refine zp_il1 (q := 2) dX12_seatAt_1 rfl ?_
  refine zr_iconst (q := 3) dX12_seatAt_2 rfl (z_in_of rfl) ?_
  refine zp_al0 (q := 4) dX12_seatAt_3 rfl ?_
  refine zf_getG (v := 518) 0 (k517) (H.1) rfl fdX12_7 (q := 7) dX12_seatAt_4 rfl rfl ?_
  refine zr_iconst (q := 8) dX12_seatAt_7 rfl (z_in_of rfl) ?_
  refine zf_iald (v := _) (by first | assumption | exact k518 | exact k519 | exact k520 | exact k521 | exact k522 | exact k523 | exact k524 | exact k525 | exact k526 | exact k527 | exact k528 | exact k510 | exact k512 | exact k515 | exact k516 | exact k507 | exact k509 | exact k135 | exact k489 | exact k529 | exact k530) (rfl) (q := 9) dX12_seatAt_8 rfl (by omega) (by omega) ?_
  refine zr_iconst (q := 10) dX12_seatAt_9 rfl (z_in_of rfl) ?_
  refine zr_isub (q := 11) dX12_seatAt_10 rfl (fun hA hB => by unfold z_in at hA hB ⊢; omega) ?_
  refine zp_callS3 (s_X12_in) mtX12_in wtX12_in wlX12_66 (q := 14) dX12_seatAt_11 rfl rfl rfl rfl rfl (fun r S9 M9 h8 hP => ?_) (fun k S9 M9 hP => (z_no hP.1 rfl).elim)
  obtain ⟨rfl, rfl, h9⟩ := hP
  subst M9
  rw [if_pos (by omega)]
  refine zr_if_eq (q := 21) (q2 := 17) dX12_seatAt_14 (by decide) rfl (fun h14 => ?_) (fun h14 => ?_)
  · exact absurd h14 (by decide)
  · refine zr_iconst (q := 18) dX12_seatAt_17 rfl (z_in_of rfl) ?_
    refine zr_goto (q := 22) dX12_seatAt_18 (by decide) ?_
    refine zf_callV1 (k517) (s_X12_fails) mtX12_fails wiX12_fails weX12_fails wlX12_77 (q := 25) dX12_seatAt_22 rfl rfl rfl rfl rfl rfl rfl (fun r S9 M9 h8 hP => ?_) (fun k S9 M9 hP => (z_no hP.1 rfl).elim)
    obtain ⟨rfl, rfl, h9⟩ := hP
    subst M9
    refine zr_if_eq (q := 32) (q2 := 28) dX12_seatAt_25 (by decide) rfl (fun h25 => ?_) (fun h25 => ?_)
    · refine zp_al0 (q := 33) dX12_seatAt_32 rfl ?_
      refine zf_getG (v := 518) 0 (k517) (H.1) rfl fdX12_7 (q := 36) dX12_seatAt_33 rfl rfl ?_
      refine zr_bipush (q := 38) dX12_seatAt_36 rfl (z_in_of rfl) (by decide +kernel) ?_
      refine zp_il1 (q := 39) dX12_seatAt_38 rfl ?_
      refine zr_iadd (q := 40) dX12_seatAt_39 rfl (fun hA hB => by unfold z_in at hA hB ⊢; omega) ?_
      refine zf_iald (v := _) (by first | assumption | exact k518 | exact k519 | exact k520 | exact k521 | exact k522 | exact k523 | exact k524 | exact k525 | exact k526 | exact k527 | exact k528 | exact k510 | exact k512 | exact k515 | exact k516 | exact k507 | exact k509 | exact k135 | exact k489 | exact k529 | exact k530) (rfl) (q := 41) dX12_seatAt_40 rfl (by omega) (by omega) ?_
      refine zr_ireturn dX12_seatAt_41 rfl (z_fit_i _) ?_
      exact ⟨rfl, rfl, rfl⟩
    · exact absurd h25 (by decide)
theorem s_X12_seatAt_x (H : zHm M) (hG : zWF (M 518)) {s : Int} (hs : ¬ (0 ≤ s ∧ s < M 518 3)) : z_Call mX12_seatAt zF [(1, 517), (0, s)] M (zpF 0 (0) (z_up M 517 7 1)) := by
  have h8 := hG.s8
  have hw := hG.w
  have hs0 := hG.s
  refine z_enter (k := 0) rfl rfl rfl ?_
  refine zp_al0 (q := 1) dX12_seatAt_0 rfl ?_
  refine zp_il1 (q := 2) dX12_seatAt_1 rfl ?_
  refine zr_iconst (q := 3) dX12_seatAt_2 rfl (z_in_of rfl) ?_
  refine zp_al0 (q := 4) dX12_seatAt_3 rfl ?_
  refine zf_getG (v := 518) 0 (k517) (H.1) rfl fdX12_7 (q := 7) dX12_seatAt_4 rfl rfl ?_
  refine zr_iconst (q := 8) dX12_seatAt_7 rfl (z_in_of rfl) ?_
  refine zf_iald (v := _) (by first | assumption | exact k518 | exact k519 | exact k520 | exact k521 | exact k522 | exact k523 | exact k524 | exact k525 | exact k526 | exact k527 | exact k528 | exact k510 | exact k512 | exact k515 | exact k516 | exact k507 | exact k509 | exact k135 | exact k489 | exact k529 | exact k530) (rfl) (q := 9) dX12_seatAt_8 rfl (by omega) (by omega) ?_
  refine zr_iconst (q := 10) dX12_seatAt_9 rfl (z_in_of rfl) ?_
  refine zr_isub (q := 11) dX12_seatAt_10 rfl (fun hA hB => by unfold z_in at hA hB ⊢; omega) ?_
  refine zp_callS3 (s_X12_in) mtX12_in wtX12_in wlX12_66 (q := 14) dX12_seatAt_11 rfl rfl rfl rfl rfl (fun r S9 M9 h8 hP => ?_) (fun k S9 M9 hP => (z_no hP.1 rfl).elim)
  obtain ⟨rfl, rfl, h9⟩ := hP
  subst M9
  rw [if_neg (by omega)]
  refine zr_if_eq (q := 21) (q2 := 17) dX12_seatAt_14 (by decide) rfl (fun h14 => ?_) (fun h14 => ?_)
  · refine zr_iconst (q := 22) dX12_seatAt_21 rfl (z_in_of rfl) ?_
    refine zf_callV1 (k517) (s_X12_fails) mtX12_fails wiX12_fails weX12_fails wlX12_77 (q := 25) dX12_seatAt_22 rfl rfl rfl rfl rfl rfl rfl (fun r S9 M9 h8 hP => ?_) (fun k S9 M9 hP => (z_no hP.1 rfl).elim)
    obtain ⟨rfl, rfl, h9⟩ := hP
    subst M9
    refine zr_if_eq (q := 32) (q2 := 28) dX12_seatAt_25 (by decide) rfl (fun h25 => ?_) (fun h25 => ?_)
    · exact absurd h25 (by decide)
    · refine zr_iconst (q := 29) dX12_seatAt_28 rfl (z_in_of rfl) ?_
      refine zr_goto (q := 41) dX12_seatAt_29 (by decide) ?_
      refine zr_ireturn dX12_seatAt_41 rfl (z_fit_i _) ?_
      exact ⟨rfl, rfl, rfl⟩
  · exact absurd rfl h14
theorem s_X12_lineAt (H : zHm M) {i : Int} (hi : 0 ≤ i ∧ i < M 517 13) (hl : M 517 13 ≤ 60) (hc : 0 ≤ M 523 i ∧ M 523 i < 65536) : z_Call mX12_lineAt zF [(1, 517), (0, i)] M (zpF 0 (M 523 i) (z_up M 517 7 0)) := by
  refine z_enter (k := 0) rfl rfl rfl ?_
  refine zp_al0 (q := 1) dX12_lineAt_0 rfl ?_
  refine zp_il1 (q := 2) dX12_lineAt_1 rfl ?_
  refine zr_iconst (q := 3) dX12_lineAt_2 rfl (z_in_of rfl) ?_
  refine zp_al0 (q := 4) dX12_lineAt_3 rfl ?_
  refine zf_getG (v := _) 13 (k517) (rfl) rfl fdX12_158 (q := 7) dX12_lineAt_4 rfl rfl ?_
  refine zr_iconst (q := 8) dX12_lineAt_7 rfl (z_in_of rfl) ?_
  refine zr_isub (q := 9) dX12_lineAt_8 rfl (fun hA hB => by unfold z_in at hA hB ⊢; omega) ?_
  refine zp_callS3 (s_X12_in) mtX12_in wtX12_in wlX12_66 (q := 12) dX12_lineAt_9 rfl rfl rfl rfl rfl (fun r S9 M9 h8 hP => ?_) (fun k S9 M9 hP => (z_no hP.1 rfl).elim)
  obtain ⟨rfl, rfl, h9⟩ := hP
  subst M9
  rw [if_pos (by omega)]
  refine zr_if_eq (q := 19) (q2 := 15) dX12_lineAt_12 (by decide) rfl (fun h12 => ?_) (fun h12 => ?_)
  · exact absurd h12 (by decide)
  · refine zr_iconst (q := 16) dX12_lineAt_15 rfl (z_in_of rfl) ?_
    refine zr_goto (q := 20) dX12_lineAt_16 (by decide) ?_
    refine zf_callV1 (k517) (s_X12_fails) mtX12_fails wiX12_fails weX12_fails wlX12_77 (q := 23) dX12_lineAt_20 rfl rfl rfl rfl rfl rfl rfl (fun r S9 M9 h8 hP => ?_) (fun k S9 M9 hP => (z_no hP.1 rfl).elim)
    obtain ⟨rfl, rfl, h9⟩ := hP
    subst M9
    refine zr_if_eq (q := 31) (q2 := 26) dX12_lineAt_23 (by decide) rfl (fun h23 => ?_) (fun h23 => ?_)
    · refine zp_al0 (q := 32) dX12_lineAt_31 rfl ?_
      refine zf_getG (v := 523) 12 (k517) (H.2.2.2.2.2.1) rfl fdX12_32 (q := 35) dX12_lineAt_32 rfl rfl ?_
      refine zp_il1 (q := 36) dX12_lineAt_35 rfl ?_
      refine zf_cald (v := M 523 i) (by first | assumption | exact k518 | exact k519 | exact k520 | exact k521 | exact k522 | exact k523 | exact k524 | exact k525 | exact k526 | exact k527 | exact k528 | exact k510 | exact k512 | exact k515 | exact k516 | exact k507 | exact k509 | exact k135 | exact k489 | exact k529 | exact k530) (rfl) (q := 37) dX12_lineAt_36 rfl (by omega) (by omega) ?_
      refine zr_ireturn dX12_lineAt_37 rfl (z_fit_c (by omega) (by omega)) ?_
      exact ⟨rfl, rfl, rfl⟩
    · exact absurd h23 (by decide)
theorem s_X12_lineAt_x {i : Int} (hi : ¬ (0 ≤ i ∧ i < M 517 13)) (hl : 0 ≤ M 517 13 ∧ M 517 13 ≤ 60) : z_Call mX12_lineAt zF [(1, 517), (0, i)] M (zpF 0 (32) (z_up M 517 7 1)) := by
  refine z_enter (k := 0) rfl rfl rfl ?_
  refine zp_al0 (q := 1) dX12_lineAt_0 rfl ?_
  refine zp_il1 (q := 2) dX12_lineAt_1 rfl ?_
  refine zr_iconst (q := 3) dX12_lineAt_2 rfl (z_in_of rfl) ?_
  refine zp_al0 (q := 4) dX12_lineAt_3 rfl ?_
  refine zf_getG (v := _) 13 (k517) (rfl) rfl fdX12_158 (q := 7) dX12_lineAt_4 rfl rfl ?_
  refine zr_iconst (q := 8) dX12_lineAt_7 rfl (z_in_of rfl) ?_
  refine zr_isub (q := 9) dX12_lineAt_8 rfl (fun hA hB => by unfold z_in at hA hB ⊢; omega) ?_
  refine zp_callS3 (s_X12_in) mtX12_in wtX12_in wlX12_66 (q := 12) dX12_lineAt_9 rfl rfl rfl rfl rfl (fun r S9 M9 h8 hP => ?_) (fun k S9 M9 hP => (z_no hP.1 rfl).elim)
  obtain ⟨rfl, rfl, h9⟩ := hP
  subst M9
  rw [if_neg (by omega)]
  refine zr_if_eq (q := 19) (q2 := 15) dX12_lineAt_12 (by decide) rfl (fun h12 => ?_) (fun h12 => ?_)
  · refine zr_iconst (q := 20) dX12_lineAt_19 rfl (z_in_of rfl) ?_
    refine zf_callV1 (k517) (s_X12_fails) mtX12_fails wiX12_fails weX12_fails wlX12_77 (q := 23) dX12_lineAt_20 rfl rfl rfl rfl rfl rfl rfl (fun r S9 M9 h8 hP => ?_) (fun k S9 M9 hP => (z_no hP.1 rfl).elim)
    obtain ⟨rfl, rfl, h9⟩ := hP
    subst M9
    refine zr_if_eq (q := 31) (q2 := 26) dX12_lineAt_23 (by decide) rfl (fun h23 => ?_) (fun h23 => ?_)
    · exact absurd h23 (by decide)
    · refine zr_bipush (q := 28) dX12_lineAt_26 rfl (z_in_of rfl) (by decide +kernel) ?_
      refine zr_goto (q := 37) dX12_lineAt_28 (by decide) ?_
      refine zr_ireturn dX12_lineAt_37 rfl (z_fit_c (by omega) (by omega)) ?_
      exact ⟨rfl, rfl, rfl⟩
  · exact absurd rfl h12
theorem s_X12_errorPosition (hx : 0 ≤ M 517 10) : z_Call mX12_errorPosition zF [(1, 517)] M (zpF 0 (M 517 10) (z_up M 517 7 0)) := by
  refine z_enter (k := 0) rfl rfl rfl ?_
  refine zp_al0 (q := 1) dX12_errorPosition_0 rfl ?_
  refine zp_al0 (q := 2) dX12_errorPosition_1 rfl ?_
  refine zf_getG (v := _) 10 (k517) (rfl) rfl fdX12_25 (q := 5) dX12_errorPosition_2 rfl rfl ?_
  refine zr_if_ge (q := 12) (q2 := 8) dX12_errorPosition_5 (by decide) rfl (fun h5 => ?_) (fun h5 => ?_)
  · refine zr_iconst (q := 13) dX12_errorPosition_12 rfl (z_in_of rfl) ?_
    refine zf_callV1 (k517) (s_X12_fails) mtX12_fails wiX12_fails weX12_fails wlX12_77 (q := 16) dX12_errorPosition_13 rfl rfl rfl rfl rfl rfl rfl (fun r S9 M9 h8 hP => ?_) (fun k S9 M9 hP => (z_no hP.1 rfl).elim)
    obtain ⟨rfl, rfl, h9⟩ := hP
    subst M9
    refine zr_if_eq (q := 23) (q2 := 19) dX12_errorPosition_16 (by decide) rfl (fun h16 => ?_) (fun h16 => ?_)
    · refine zp_al0 (q := 24) dX12_errorPosition_23 rfl ?_
      refine zf_getG (v := _) 10 (k517) (rfl) rfl fdX12_25 (q := 27) dX12_errorPosition_24 rfl rfl ?_
      refine zr_ireturn dX12_errorPosition_27 rfl (z_fit_i _) ?_
      exact ⟨rfl, rfl, rfl⟩
    · exact absurd h16 (by decide)
  · exact absurd hx h5
theorem s_X12_errorPosition_x (hx : M 517 10 < 0) : z_Call mX12_errorPosition zF [(1, 517)] M (zpF 0 (0) (z_up M 517 7 1)) := by
  refine z_enter (k := 0) rfl rfl rfl ?_
  refine zp_al0 (q := 1) dX12_errorPosition_0 rfl ?_
  refine zp_al0 (q := 2) dX12_errorPosition_1 rfl ?_
  refine zf_getG (v := _) 10 (k517) (rfl) rfl fdX12_25 (q := 5) dX12_errorPosition_2 rfl rfl ?_
  refine zr_if_ge (q := 12) (q2 := 8) dX12_errorPosition_5 (by decide) rfl (fun h5 => ?_) (fun h5 => ?_)
  · exact absurd hx (by omega)
  · refine zr_iconst (q := 9) dX12_errorPosition_8 rfl (z_in_of rfl) ?_
    refine zr_goto (q := 13) dX12_errorPosition_9 (by decide) ?_
    refine zf_callV1 (k517) (s_X12_fails) mtX12_fails wiX12_fails weX12_fails wlX12_77 (q := 16) dX12_errorPosition_13 rfl rfl rfl rfl rfl rfl rfl (fun r S9 M9 h8 hP => ?_) (fun k S9 M9 hP => (z_no hP.1 rfl).elim)
    obtain ⟨rfl, rfl, h9⟩ := hP
    subst M9
    refine zr_if_eq (q := 23) (q2 := 19) dX12_errorPosition_16 (by decide) rfl (fun h16 => ?_) (fun h16 => ?_)
    · exact absurd h16 (by decide)
    · refine zr_iconst (q := 20) dX12_errorPosition_19 rfl (z_in_of rfl) ?_
      refine zr_goto (q := 27) dX12_errorPosition_20 (by decide) ?_
      refine zr_ireturn dX12_errorPosition_27 rfl (z_fit_i _) ?_
      exact ⟨rfl, rfl, rfl⟩
theorem s_X12_failedCommand (hx : 0 ≤ M 517 11) : z_Call mX12_failedCommand zF [(1, 517)] M (zpF 0 (M 517 11) (z_up M 517 7 0)) := by
  refine z_enter (k := 0) rfl rfl rfl ?_
  refine zp_al0 (q := 1) dX12_failedCommand_0 rfl ?_
  refine zp_al0 (q := 2) dX12_failedCommand_1 rfl ?_
  refine zf_getG (v := _) 11 (k517) (rfl) rfl fdX12_29 (q := 5) dX12_failedCommand_2 rfl rfl ?_
  refine zr_if_ge (q := 12) (q2 := 8) dX12_failedCommand_5 (by decide) rfl (fun h5 => ?_) (fun h5 => ?_)
  · refine zr_iconst (q := 13) dX12_failedCommand_12 rfl (z_in_of rfl) ?_
    refine zf_callV1 (k517) (s_X12_fails) mtX12_fails wiX12_fails weX12_fails wlX12_77 (q := 16) dX12_failedCommand_13 rfl rfl rfl rfl rfl rfl rfl (fun r S9 M9 h8 hP => ?_) (fun k S9 M9 hP => (z_no hP.1 rfl).elim)
    obtain ⟨rfl, rfl, h9⟩ := hP
    subst M9
    refine zr_if_eq (q := 23) (q2 := 19) dX12_failedCommand_16 (by decide) rfl (fun h16 => ?_) (fun h16 => ?_)
    · refine zp_al0 (q := 24) dX12_failedCommand_23 rfl ?_
      refine zf_getG (v := _) 11 (k517) (rfl) rfl fdX12_29 (q := 27) dX12_failedCommand_24 rfl rfl ?_
      refine zr_ireturn dX12_failedCommand_27 rfl (z_fit_i _) ?_
      exact ⟨rfl, rfl, rfl⟩
    · exact absurd h16 (by decide)
  · exact absurd hx h5
theorem s_X12_failedCommand_x (hx : M 517 11 < 0) : z_Call mX12_failedCommand zF [(1, 517)] M (zpF 0 (0) (z_up M 517 7 1)) := by
  refine z_enter (k := 0) rfl rfl rfl ?_
  refine zp_al0 (q := 1) dX12_failedCommand_0 rfl ?_
  refine zp_al0 (q := 2) dX12_failedCommand_1 rfl ?_
  refine zf_getG (v := _) 11 (k517) (rfl) rfl fdX12_29 (q := 5) dX12_failedCommand_2 rfl rfl ?_
  refine zr_if_ge (q := 12) (q2 := 8) dX12_failedCommand_5 (by decide) rfl (fun h5 => ?_) (fun h5 => ?_)
  · exact absurd hx (by omega)
  · refine zr_iconst (q := 9) dX12_failedCommand_8 rfl (z_in_of rfl) ?_
    refine zr_goto (q := 13) dX12_failedCommand_9 (by decide) ?_
    refine zf_callV1 (k517) (s_X12_fails) mtX12_fails wiX12_fails weX12_fails wlX12_77 (q := 16) dX12_failedCommand_13 rfl rfl rfl rfl rfl rfl rfl (fun r S9 M9 h8 hP => ?_) (fun k S9 M9 hP => (z_no hP.1 rfl).elim)
    obtain ⟨rfl, rfl, h9⟩ := hP
    subst M9
    refine zr_if_eq (q := 23) (q2 := 19) dX12_failedCommand_16 (by decide) rfl (fun h16 => ?_) (fun h16 => ?_)
    · exact absurd h16 (by decide)
    · refine zr_iconst (q := 20) dX12_failedCommand_19 rfl (z_in_of rfl) ?_
      refine zr_goto (q := 27) dX12_failedCommand_20 (by decide) ?_
      refine zr_ireturn dX12_failedCommand_27 rfl (z_fit_i _) ?_
      exact ⟨rfl, rfl, rfl⟩
end ZBP
