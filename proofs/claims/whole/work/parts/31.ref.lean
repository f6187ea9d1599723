/-! ===== the reference: what only reads ===== -/
section ZB
variable {M : zM}
theorem zHm.c {x : Int} (H : zHm M) : zHm (z_up M 517 7 x) := H
theorem zWF.c {x : Int} (H : zWF (M 518)) : zWF (z_up M 517 7 x 518) := H
theorem s_X12_isBallot {w : Int} (H : zHm M) (hG : zWF (M 518)) : z_Call mX12_isBallot zF [(1, 517), (0, w)] M (zpF 0 (if 0 ≤ w ∧ w < M 518 1 then 1 else 0) M) := by
  have hn := hG.n
  refine z_enter (k := 0) rfl rfl rfl ?_
  refine zp_il1 (q := 1) dX12_isBallot_0 rfl ?_
  refine zr_iconst (q := 2) dX12_isBallot_1 rfl (z_in_of rfl) ?_
  refine zp_al0 (q := 3) dX12_isBallot_2 rfl ?_
  refine zf_getG (v := 518) 0 (k517) (H.1) rfl fdX12_7 (q := 6) dX12_isBallot_3 rfl rfl ?_
  refine zr_iconst (q := 7) dX12_isBallot_6 rfl (z_in_of rfl) ?_
  refine zf_iald (v := _) (by first | assumption | exact k518 | exact k519 | exact k520 | exact k521 | exact k522 | exact k523 | exact k524 | exact k525 | exact k526 | exact k527 | exact k528 | exact k510 | exact k512 | exact k515 | exact k516 | exact k507 | exact k509 | exact k135 | exact k489 | exact k529 | exact k530) (rfl) (q := 8) dX12_isBallot_7 rfl (by omega) (by omega) ?_
  refine zr_iconst (q := 9) dX12_isBallot_8 rfl (z_in_of rfl) ?_
  refine zr_isub (q := 10) dX12_isBallot_9 rfl (fun hA hB => by unfold z_in at hA hB ⊢; omega) ?_
  refine zp_callS3 (s_X12_in) mtX12_in wtX12_in wlX12_66 (q := 13) dX12_isBallot_10 rfl rfl rfl rfl rfl (fun r S9 M9 h8 hP => ?_) (fun k S9 M9 hP => (z_no hP.1 rfl).elim)
  obtain ⟨rfl, rfl, h9⟩ := hP
  subst M9
  refine zr_ireturn dX12_isBallot_13 rfl (z_fit_z (by split <;> decide)) ?_
  exact ⟨by congr 1; split <;> split <;> first | rfl | omega, rfl, rfl⟩
theorem s_X12_isWeight {w : Int} : z_Call mX12_isWeight zF [(0, w)] M (zpF 0 (if 1 ≤ w ∧ w ≤ 99 then 1 else 0) M) := by
  refine z_enter (k := 0) rfl rfl rfl ?_
  refine zp_il0 (q := 1) dX12_isWeight_0 rfl ?_
  refine zr_iconst (q := 2) dX12_isWeight_1 rfl (z_in_of rfl) ?_
  refine zr_bipush (q := 4) dX12_isWeight_2 rfl (z_in_of rfl) (by decide +kernel) ?_
  refine zp_callS3 (s_X12_in) mtX12_in wtX12_in wlX12_66 (q := 7) dX12_isWeight_4 rfl rfl rfl rfl rfl (fun r S9 M9 h8 hP => ?_) (fun k S9 M9 hP => (z_no hP.1 rfl).elim)
  obtain ⟨rfl, rfl, h9⟩ := hP
  subst M9
  refine zr_ireturn dX12_isWeight_7 rfl (z_fit_z (by split <;> decide)) ?_
  exact ⟨rfl, rfl, rfl⟩
theorem s_X12_isNone {w : Int} (H : zHm M) (hG : zWF (M 518)) : z_Call mX12_isNone zF [(1, 517), (0, w)] M (zpF 0 (if 0 ≤ w ∧ w < M 518 0 then 0 else 1) (z_up M 517 7 (if 0 ≤ w ∧ w < M 518 0 then 0 else 1))) := by
  have hw := hG.w
  refine z_enter (k := 0) rfl rfl rfl ?_
  refine zp_al0 (q := 1) dX12_isNone_0 rfl ?_
  refine zp_al0 (q := 2) dX12_isNone_1 rfl ?_
  refine zp_il1 (q := 3) dX12_isNone_2 rfl ?_
  refine zf_callV1 (k517) (s_X12_isWind H hw) mtX12_isWind wiX12_isWind weX12_isWind wlX12_74 (q := 6) dX12_isNone_3 rfl rfl rfl rfl rfl rfl rfl (fun r S9 M9 h8 hP => ?_) (fun k S9 M9 hP => (z_no hP.1 rfl).elim)
  obtain ⟨rfl, rfl, h9⟩ := hP
  subst M9
  refine zr_if_eq (q := 13) (q2 := 9) dX12_isNone_6 (by decide) rfl (fun h6 => ?_) (fun h6 => ?_)
  · refine zr_iconst (q := 14) dX12_isNone_13 rfl (z_in_of rfl) ?_
    refine zf_callV1 (k517) (s_X12_fails) mtX12_fails wiX12_fails weX12_fails wlX12_77 (q := 17) dX12_isNone_14 rfl rfl rfl rfl rfl rfl rfl (fun r S9 M9 h8 hP => ?_) (fun k S9 M9 hP => (z_no hP.1 rfl).elim)
    obtain ⟨rfl, rfl, h9⟩ := hP
    subst M9
    refine zr_ireturn dX12_isNone_17 rfl (z_fit_z (by split <;> decide)) ?_
    exact ⟨by first | rw [if_pos (by omega), if_neg (by omega)] | rw [if_neg (by omega), if_pos (by omega)], rfl, by first | rw [if_pos (by omega)] | rw [if_neg (by omega)]⟩
  · refine zr_iconst (q := 10) dX12_isNone_9 rfl (z_in_of rfl) ?_
    refine zr_goto (q := 14) dX12_isNone_10 (by decide) ?_
    refine zf_callV1 (k517) (s_X12_fails) mtX12_fails wiX12_fails weX12_fails wlX12_77 (q := 17) dX12_isNone_14 rfl rfl rfl rfl rfl rfl rfl (fun r S9 M9 h8 hP => ?_) (fun k S9 M9 hP => (z_no hP.1 rfl).elim)
    obtain ⟨rfl, rfl, h9⟩ := hP
    subst M9
    refine zr_ireturn dX12_isNone_17 rfl (z_fit_z (by split <;> decide)) ?_
    exact ⟨by first | rw [if_pos (by omega), if_neg (by omega)] | rw [if_neg (by omega), if_pos (by omega)], rfl, by first | rw [if_pos (by omega)] | rw [if_neg (by omega)]⟩
theorem s_X12_isLost {w : Int} (H : zHm M) (hG : zWF (M 518)) : z_Call mX12_isLost zF [(1, 517), (0, w)] M (zpF 0 (if 0 ≤ w ∧ w < M 518 1 then 0 else 1) (z_up M 517 7 (if 0 ≤ w ∧ w < M 518 1 then 0 else 1))) := by
  refine z_enter (k := 0) rfl rfl rfl ?_
  refine zp_al0 (q := 1) dX12_isLost_0 rfl ?_
  refine zp_al0 (q := 2) dX12_isLost_1 rfl ?_
  refine zp_il1 (q := 3) dX12_isLost_2 rfl ?_
  refine zf_callV1 (k517) (s_X12_isBallot H hG) mtX12_isBallot wiX12_isBallot weX12_isBallot wlX12_95 (q := 6) dX12_isLost_3 rfl rfl rfl rfl rfl rfl rfl (fun r S9 M9 h8 hP => ?_) (fun k S9 M9 hP => (z_no hP.1 rfl).elim)
  obtain ⟨rfl, rfl, h9⟩ := hP
  subst M9
  refine zr_if_eq (q := 13) (q2 := 9) dX12_isLost_6 (by decide) rfl (fun h6 => ?_) (fun h6 => ?_)
  · refine zr_iconst (q := 14) dX12_isLost_13 rfl (z_in_of rfl) ?_
    refine zf_callV1 (k517) (s_X12_fails) mtX12_fails wiX12_fails weX12_fails wlX12_77 (q := 17) dX12_isLost_14 rfl rfl rfl rfl rfl rfl rfl (fun r S9 M9 h8 hP => ?_) (fun k S9 M9 hP => (z_no hP.1 rfl).elim)
    obtain ⟨rfl, rfl, h9⟩ := hP
    subst M9
    refine zr_ireturn dX12_isLost_17 rfl (z_fit_z (by split <;> decide)) ?_
    exact ⟨by first | rw [if_pos (by omega), if_neg (by omega)] | rw [if_neg (by omega), if_pos (by omega)], rfl, by first | rw [if_pos (by omega)] | rw [if_neg (by omega)]⟩
  · refine zr_iconst (q := 10) dX12_isLost_9 rfl (z_in_of rfl) ?_
    refine zr_goto (q := 14) dX12_isLost_10 (by decide) ?_
    refine zf_callV1 (k517) (s_X12_fails) mtX12_fails wiX12_fails weX12_fails wlX12_77 (q := 17) dX12_isLost_14 rfl rfl rfl rfl rfl rfl rfl (fun r S9 M9 h8 hP => ?_) (fun k S9 M9 hP => (z_no hP.1 rfl).elim)
    obtain ⟨rfl, rfl, h9⟩ := hP
    subst M9
    refine zr_ireturn dX12_isLost_17 rfl (z_fit_z (by split <;> decide)) ?_
    exact ⟨by first | rw [if_pos (by omega), if_neg (by omega)] | rw [if_neg (by omega), if_pos (by omega)], rfl, by first | rw [if_pos (by omega)] | rw [if_neg (by omega)]⟩
theorem s_X12_areNone {w o : Int} (H : zHm M) (hG : zWF (M 518)) : z_Call mX12_areNone zF [(1, 517), (0, w), (0, o)] M (zpF 0 (if (0 ≤ w ∧ w < M 518 0) ∧ 0 ≤ o ∧ o < M 518 0 then 0 else 1) (z_up M 517 7 (if (0 ≤ w ∧ w < M 518 0) ∧ 0 ≤ o ∧ o < M 518 0 then 0 else 1))) := by
  have hw := hG.w
  refine z_enter (k := 0) rfl rfl rfl ?_
  refine zp_al0 (q := 1) dX12_areNone_0 rfl ?_
  refine zp_al0 (q := 2) dX12_areNone_1 rfl ?_
  refine zp_il1 (q := 3) dX12_areNone_2 rfl ?_
  refine zf_callV1 (k517) (s_X12_isWind H hw) mtX12_isWind wiX12_isWind weX12_isWind wlX12_74 (q := 6) dX12_areNone_3 rfl rfl rfl rfl rfl rfl rfl (fun r S9 M9 h8 hP => ?_) (fun k S9 M9 hP => (z_no hP.1 rfl).elim)
  obtain ⟨rfl, rfl, h9⟩ := hP
  subst M9
  refine zr_if_eq (q := 21) (q2 := 9) dX12_areNone_6 (by decide) rfl (fun h6 => ?_) (fun h6 => ?_)
  · refine zr_iconst (q := 22) dX12_areNone_21 rfl (z_in_of rfl) ?_
    refine zf_callV1 (k517) (s_X12_fails) mtX12_fails wiX12_fails weX12_fails wlX12_77 (q := 25) dX12_areNone_22 rfl rfl rfl rfl rfl rfl rfl (fun r S9 M9 h8 hP => ?_) (fun k S9 M9 hP => (z_no hP.1 rfl).elim)
    obtain ⟨rfl, rfl, h9⟩ := hP
    subst M9
    refine zr_ireturn dX12_areNone_25 rfl (z_fit_z (by split <;> decide)) ?_
    exact ⟨by first | rw [if_pos (by omega), if_neg (by omega)] | rw [if_neg (by omega), if_pos (by omega)], rfl, by first | rw [if_pos (by omega)] | rw [if_neg (by omega)]⟩
  · refine zp_al0 (q := 10) dX12_areNone_9 rfl ?_
    refine zp_il2 (q := 11) dX12_areNone_10 rfl ?_
    refine zf_callV1 (k517) (s_X12_isWind H hw) mtX12_isWind wiX12_isWind weX12_isWind wlX12_74 (q := 14) dX12_areNone_11 rfl rfl rfl rfl rfl rfl rfl (fun r S9 M9 h8 hP => ?_) (fun k S9 M9 hP => (z_no hP.1 rfl).elim)
    obtain ⟨rfl, rfl, h9⟩ := hP
    subst M9
    refine zr_if_eq (q := 21) (q2 := 17) dX12_areNone_14 (by decide) rfl (fun h14 => ?_) (fun h14 => ?_)
    · refine zr_iconst (q := 22) dX12_areNone_21 rfl (z_in_of rfl) ?_
      refine zf_callV1 (k517) (s_X12_fails) mtX12_fails wiX12_fails weX12_fails wlX12_77 (q := 25) dX12_areNone_22 rfl rfl rfl rfl rfl rfl rfl (fun r S9 M9 h8 hP => ?_) (fun k S9 M9 hP => (z_no hP.1 rfl).elim)
      obtain ⟨rfl, rfl, h9⟩ := hP
      subst M9
      refine zr_ireturn dX12_areNone_25 rfl (z_fit_z (by split <;> decide)) ?_
      exact ⟨by first | rw [if_pos (by omega), if_neg (by omega)] | rw [if_neg (by omega), if_pos (by omega)], rfl, by first | rw [if_pos (by omega)] | rw [if_neg (by omega)]⟩
    · refine zr_iconst (q := 18) dX12_areNone_17 rfl (z_in_of rfl) ?_
      refine zr_goto (q := 22) dX12_areNone_18 (by decide) ?_
      refine zf_callV1 (k517) (s_X12_fails) mtX12_fails wiX12_fails weX12_fails wlX12_77 (q := 25) dX12_areNone_22 rfl rfl rfl rfl rfl rfl rfl (fun r S9 M9 h8 hP => ?_) (fun k S9 M9 hP => (z_no hP.1 rfl).elim)
      obtain ⟨rfl, rfl, h9⟩ := hP
      subst M9
      refine zr_ireturn dX12_areNone_25 rfl (z_fit_z (by split <;> decide)) ?_
      exact ⟨by first | rw [if_pos (by omega), if_neg (by omega)] | rw [if_neg (by omega), if_pos (by omega)], rfl, by first | rw [if_pos (by omega)] | rw [if_neg (by omega)]⟩
theorem s_X12_standing_l (H : zHm M) (hG : zWF (M 518)) {bc bs : Nat} : ∀ (m : Nat) (k x : Int), 0 ≤ k → k ≤ M 518 0 → M 518 0 - k < m → 0 ≤ x → x ≤ k → x = zU (fun w => if M 518 (4 + w) = 0 then 1 else 0) k →
    z_Ex mX12_standing zF 4 [(1, 517), (0, x), (0, k)] [] M bc bs (zpF 0 (zSt (M 518)) M) := by
  have hw := hG.w
  intro m
  induction m with
  | zero => intro k x h0 h1 h2; omega
  | succ m ih =>
    intro k x h0 h1 h2 h3 h4 hx
    refine zp_il2 (q := 5) dX12_standing_4 rfl ?_
    refine zp_al0 (q := 6) dX12_standing_5 rfl ?_
    refine zf_getG (v := 518) 0 (k517) (H.1) rfl fdX12_7 (q := 9) dX12_standing_6 rfl rfl ?_
    refine zr_iconst (q := 10) dX12_standing_9 rfl (z_in_of rfl) ?_
    refine zf_iald (v := _) (k518) (rfl) (q := 11) dX12_standing_10 rfl (by omega) (by omega) ?_
    refine zr_icmp_ge (q := 36) (q2 := 14) dX12_standing_11 (by decide) rfl (fun h11 => ?_) (fun h11 => ?_)
    · refine zp_il1 (q := 37) dX12_standing_36 rfl ?_
      refine zr_ireturn dX12_standing_37 rfl (z_fit_i _) ?_
      exact ⟨by rw [hx, show k = M 518 0 by omega]; rfl, rfl, rfl⟩
    · refine zp_il1 (q := 15) dX12_standing_14 rfl ?_
      refine zp_al0 (q := 16) dX12_standing_15 rfl ?_
      refine zp_il2 (q := 17) dX12_standing_16 rfl ?_
      refine zf_callV1 (k517) (s_X12_stands H h0 (by omega)) mtX12_stands wiX12_stands weX12_stands wlX12_70 (q := 20) dX12_standing_17 rfl rfl rfl rfl rfl rfl rfl (fun r S9 M9 h8 hP => ?_) (fun k S9 M9 hP => (z_no hP.1 rfl).elim)
      obtain ⟨rfl, rfl, h9⟩ := hP
      subst M9
      refine zr_if_eq (q := 27) (q2 := 23) dX12_standing_20 (by decide) rfl (fun h20 => ?_) (fun h20 => ?_)
      · refine zr_iconst (q := 28) dX12_standing_27 rfl (z_in_of rfl) ?_
        refine zr_iadd (q := 29) dX12_standing_28 rfl (fun hA hB => by unfold z_in at hA hB ⊢; omega) ?_
        refine zp_is1 (q := 30) dX12_standing_29 rfl rfl rfl ?_
        refine zp_inc2 (q := 33) dX12_standing_30 rfl rfl rfl (fun hA => by unfold z_in at hA ⊢; omega) ?_
        refine zr_goto (q := 4) dX12_standing_33 (by decide) ?_
        exact ih (k + 1) _ (by omega) (by omega) (by omega) (by omega) (by omega) (by rw [zU_s _ (by omega), ← hx]; omega)
      · refine zr_iconst (q := 24) dX12_standing_23 rfl (z_in_of rfl) ?_
        refine zr_goto (q := 28) dX12_standing_24 (by decide) ?_
        refine zr_iadd (q := 29) dX12_standing_28 rfl (fun hA hB => by unfold z_in at hA hB ⊢; omega) ?_
        refine zp_is1 (q := 30) dX12_standing_29 rfl rfl rfl ?_
        refine zp_inc2 (q := 33) dX12_standing_30 rfl rfl rfl (fun hA => by unfold z_in at hA ⊢; omega) ?_
        refine zr_goto (q := 4) dX12_standing_33 (by decide) ?_
        exact ih (k + 1) _ (by omega) (by omega) (by omega) (by omega) (by omega) (by rw [zU_s _ (by omega), ← hx]; omega)
theorem s_X12_standing (H : zHm M) (hG : zWF (M 518)) : z_Call mX12_standing zF [(1, 517)] M (zpF 0 (zSt (M 518)) M) := by
  have hw := hG.w
  refine z_enter (k := 2) rfl rfl rfl ?_
  refine zr_iconst (q := 1) dX12_standing_0 rfl (z_in_of rfl) ?_
  refine zp_is1 (q := 2) dX12_standing_1 rfl rfl rfl ?_
  refine zr_iconst (q := 3) dX12_standing_2 rfl (z_in_of rfl) ?_
  refine zp_is2 (q := 4) dX12_standing_3 rfl rfl rfl ?_
  exact s_X12_standing_l H hG 9 0 0 (by omega) (by omega) (by omega) (by omega) (by omega) rfl
theorem s_X12_total_l (H : zHm M) (hG : zWF (M 518)) {bc bs : Nat} : ∀ (m : Nat) (k x : Int), 0 ≤ k → k ≤ M 518 1 → M 518 1 - k < m → 0 ≤ x → x ≤ 99 * k → x = zU (fun b => M 518 (20 + 7 * b)) k →
    z_Ex mX12_total zF 4 [(1, 517), (0, x), (0, k)] [] M bc bs (zpF 0 (zTot (M 518)) M) := by
  have hn := hG.n
  intro m
  induction m with
  | zero => intro k x h0 h1 h2; omega
  | succ m ih =>
    intro k x h0 h1 h2 h3 h4 hx
    refine zp_il2 (q := 5) dX12_total_4 rfl ?_
    refine zp_al0 (q := 6) dX12_total_5 rfl ?_
    refine zf_getG (v := 518) 0 (k517) (H.1) rfl fdX12_7 (q := 9) dX12_total_6 rfl rfl ?_
    refine zr_iconst (q := 10) dX12_total_9 rfl (z_in_of rfl) ?_
    refine zf_iald (v := _) (k518) (rfl) (q := 11) dX12_total_10 rfl (by omega) (by omega) ?_
    refine zr_icmp_ge (q := 29) (q2 := 14) dX12_total_11 (by decide) rfl (fun h11 => ?_) (fun h11 => ?_)
    · refine zp_il1 (q := 30) dX12_total_29 rfl ?_
      refine zr_ireturn dX12_total_30 rfl (z_fit_i _) ?_
      exact ⟨by rw [hx, show k = M 518 1 by omega]; rfl, rfl, rfl⟩
    · have hb := hG.wt h0 (show k < M 518 1 by omega)
      refine zp_il1 (q := 15) dX12_total_14 rfl ?_
      refine zp_al0 (q := 16) dX12_total_15 rfl ?_
      refine zp_il2 (q := 17) dX12_total_16 rfl ?_
      refine zr_iconst (q := 18) dX12_total_17 rfl (z_in_of rfl) ?_
      refine zf_callV2 (k517) (s_X12_of H h0 (by omega) (by omega) (by omega)) mtX12_of wiX12_of weX12_of wlX12_91 (q := 21) dX12_total_18 rfl rfl rfl rfl rfl rfl rfl (fun r S9 M9 h8 hP => ?_) (fun k S9 M9 hP => (z_no hP.1 rfl).elim)
      obtain ⟨rfl, rfl, h9⟩ := hP
      subst M9
      rw [Int.add_zero]
      refine zr_iadd (q := 22) dX12_total_21 rfl (fun hA hB => by unfold z_in at hA hB ⊢; omega) ?_
      refine zp_is1 (q := 23) dX12_total_22 rfl rfl rfl ?_
      refine zp_inc2 (q := 26) dX12_total_23 rfl rfl rfl (fun hA => by unfold z_in at hA ⊢; omega) ?_
      refine zr_goto (q := 4) dX12_total_26 (by decide) ?_
      exact ih (k + 1) _ (by omega) (by omega) (by omega) (by omega) (by omega) (by rw [zU_s _ (by omega), ← hx])
theorem s_X12_total (H : zHm M) (hG : zWF (M 518)) : z_Call mX12_total zF [(1, 517)] M (zpF 0 (zTot (M 518)) M) := by
  have hn := hG.n
  refine z_enter (k := 2) rfl rfl rfl ?_
  refine zr_iconst (q := 1) dX12_total_0 rfl (z_in_of rfl) ?_
  refine zp_is1 (q := 2) dX12_total_1 rfl rfl rfl ?_
  refine zr_iconst (q := 3) dX12_total_2 rfl (z_in_of rfl) ?_
  refine zp_is2 (q := 4) dX12_total_3 rfl rfl rfl ?_
  exact s_X12_total_l H hG 21 0 0 (by omega) (by omega) (by omega) (by omega) (by omega) rfl
theorem s_X12_ranked_l (H : zHm M) (hG : zWF (M 518)) {b w : Int} (hb0 : 0 ≤ b) (hb1 : b < M 518 1) {bc bs : Nat} : ∀ (m : Nat) (k : Int), 0 ≤ k → k ≤ M 518 (20 + 7 * b + 1) → M 518 (20 + 7 * b + 1) - k < m → (∀ j, 0 ≤ j → j < k → ¬ M 518 (20 + 7 * b + 2 + j) = w) →
    z_Ex mX12_ranked zF 2 [(1, 517), (0, b), (0, w), (0, k)] [] M bc bs (zpF 0 (zPl (M 518) b w) M) := by
  have hn := hG.n
  have hz := hG.sz hb0 hb1
  intro m
  induction m with
  | zero => intro k h0 h1 h2; omega
  | succ m ih =>
    intro k h0 h1 h2 hx
    refine zp_il3 (q := 3) dX12_ranked_2 rfl ?_
    refine zp_al0 (q := 4) dX12_ranked_3 rfl ?_
    refine zp_il1 (q := 5) dX12_ranked_4 rfl ?_
    refine zr_iconst (q := 6) dX12_ranked_5 rfl (z_in_of rfl) ?_
    refine zf_callV2 (k517) (s_X12_of H hb0 (by omega) (by omega) (by omega)) mtX12_of wiX12_of weX12_of wlX12_91 (q := 9) dX12_ranked_6 rfl rfl rfl rfl rfl rfl rfl (fun r S9 M9 h8 hP => ?_) (fun k S9 M9 hP => (z_no hP.1 rfl).elim)
    obtain ⟨rfl, rfl, h9⟩ := hP
    subst M9
    refine zr_icmp_ge (q := 32) (q2 := 12) dX12_ranked_9 (by decide) rfl (fun h9 => ?_) (fun h9 => ?_)
    · refine zr_iconst (q := 33) dX12_ranked_32 rfl (z_in_of rfl) ?_
      refine zr_ireturn dX12_ranked_33 rfl (z_fit_i _) ?_
      exact ⟨by unfold zPl; rw [zFs_no (fun j a1 a2 => decide_eq_false (hx j a1 (by omega)))], rfl, rfl⟩
    · refine zp_al0 (q := 13) dX12_ranked_12 rfl ?_
      refine zp_il1 (q := 14) dX12_ranked_13 rfl ?_
      refine zr_iconst (q := 15) dX12_ranked_14 rfl (z_in_of rfl) ?_
      refine zp_il3 (q := 16) dX12_ranked_15 rfl ?_
      refine zr_iadd (q := 17) dX12_ranked_16 rfl (fun hA hB => by unfold z_in at hA hB ⊢; omega) ?_
      refine zf_callV2 (k517) (s_X12_of H hb0 (by omega) (by omega) (by omega)) mtX12_of wiX12_of weX12_of wlX12_91 (q := 20) dX12_ranked_17 rfl rfl rfl rfl rfl rfl rfl (fun r S9 M9 h8 hP => ?_) (fun k S9 M9 hP => (z_no hP.1 rfl).elim)
      obtain ⟨rfl, rfl, h9⟩ := hP
      subst M9
      rw [show 20 + 7 * b + (2 + k) = 20 + 7 * b + 2 + k by omega]
      refine zp_il2 (q := 21) dX12_ranked_20 rfl ?_
      refine zr_icmp_ne (q := 26) (q2 := 24) dX12_ranked_21 (by decide) rfl (fun h21 => ?_) (fun h21 => ?_)
      · refine zp_inc3 (q := 29) dX12_ranked_26 rfl rfl rfl (fun hA => by unfold z_in at hA ⊢; omega) ?_
        refine zr_goto (q := 2) dX12_ranked_29 (by decide) ?_
        exact ih (k + 1) (by omega) (by omega) (by omega) (fun j a1 a2 => by
          by_cases e : j = k
          · rw [e]; omega
          · exact hx j a1 (by omega))
      · refine zp_il3 (q := 25) dX12_ranked_24 rfl ?_
        refine zr_ireturn dX12_ranked_25 rfl (z_fit_i _) ?_
        exact ⟨by unfold zPl; rw [zFs_yes h0 (by omega) (decide_eq_true (by omega)) (fun j a1 a2 => decide_eq_false (hx j a1 a2))], rfl, rfl⟩
theorem s_X12_ranked (H : zHm M) (hG : zWF (M 518)) {b w : Int} (hb0 : 0 ≤ b) (hb1 : b < M 518 1) : z_Call mX12_ranked zF [(1, 517), (0, b), (0, w)] M (zpF 0 (zPl (M 518) b w) M) := by
  have hz := hG.sz hb0 hb1
  refine z_enter (k := 1) rfl rfl rfl ?_
  refine zr_iconst (q := 1) dX12_ranked_0 rfl (z_in_of rfl) ?_
  refine zp_is3 (q := 2) dX12_ranked_1 rfl rfl rfl ?_
  exact s_X12_ranked_l H hG hb0 hb1 6 0 (by omega) (by omega) (by omega) (fun j a1 a2 => by omega)
theorem s_X12_prefers_l (H : zHm M) (hG : zWF (M 518)) {w o : Int} {bc bs : Nat} : ∀ (m : Nat) (k x : Int), 0 ≤ k → k ≤ M 518 1 → M 518 1 - k < m → 0 ≤ x → x ≤ 99 * k → x = zU (fun b => if zPl (M 518) b w ≠ -1 ∧ (zPl (M 518) b o = -1 ∨ zPl (M 518) b w < zPl (M 518) b o) then M 518 (20 + 7 * b) else 0) k →
    z_Ex mX12_prefers zF 5 [(1, 517), (0, w), (0, o), (0, x), (0, k), (9, 0), (9, 0)] [] M bc bs (zpF 0 (zPrf (M 518) w o) M) := by
  have hn := hG.n
  intro m
  induction m with
  | zero => intro k x h0 h1 h2; omega
  | succ m ih =>
    intro k x h0 h1 h2 h3 h4 hx
    refine zp_il4 (q := 7) dX12_prefers_5 rfl ?_
    refine zp_al0 (q := 8) dX12_prefers_7 rfl ?_
    refine zf_getG (v := 518) 0 (k517) (H.1) rfl fdX12_7 (q := 11) dX12_prefers_8 rfl rfl ?_
    refine zr_iconst (q := 12) dX12_prefers_11 rfl (z_in_of rfl) ?_
    refine zf_iald (v := _) (k518) (rfl) (q := 13) dX12_prefers_12 rfl (by omega) (by omega) ?_
    refine zr_icmp_ge (q := 71) (q2 := 16) dX12_prefers_13 (by decide) rfl (fun h13 => ?_) (fun h13 => ?_)
    · refine zp_il3 (q := 72) dX12_prefers_71 rfl ?_
      refine zr_ireturn dX12_prefers_72 rfl (z_fit_i _) ?_
      exact ⟨by rw [hx, show k = M 518 1 by omega]; rfl, rfl, rfl⟩
    · have hb := hG.wt h0 (show k < M 518 1 by omega)
      have hp := zPl_range hG h0 (show k < M 518 1 by omega) w
      have ho := zPl_range hG h0 (show k < M 518 1 by omega) o
      refine zp_al0 (q := 17) dX12_prefers_16 rfl ?_
      refine zp_il4 (q := 19) dX12_prefers_17 rfl ?_
      refine zp_il1 (q := 20) dX12_prefers_19 rfl ?_
      refine zf_callV2 (k517) (s_X12_ranked H hG h0 (by omega)) mtX12_ranked wiX12_ranked weX12_ranked wlX12_101 (q := 23) dX12_prefers_20 rfl rfl rfl rfl rfl rfl rfl (fun r S9 M9 h8 hP => ?_) (fun k S9 M9 hP => (z_no hP.1 rfl).elim)
      obtain ⟨rfl, rfl, h9⟩ := hP
      subst M9
      refine zp_is5 (q := 25) dX12_prefers_23 rfl rfl rfl ?_
      refine zp_al0 (q := 26) dX12_prefers_25 rfl ?_
      refine zp_il4 (q := 28) dX12_prefers_26 rfl ?_
      refine zp_il2 (q := 29) dX12_prefers_28 rfl ?_
      refine zf_callV2 (k517) (s_X12_ranked H hG h0 (by omega)) mtX12_ranked wiX12_ranked weX12_ranked wlX12_101 (q := 32) dX12_prefers_29 rfl rfl rfl rfl rfl rfl rfl (fun r S9 M9 h8 hP => ?_) (fun k S9 M9 hP => (z_no hP.1 rfl).elim)
      obtain ⟨rfl, rfl, h9⟩ := hP
      subst M9
      refine zp_is6 (q := 34) dX12_prefers_32 rfl rfl rfl ?_
      refine zp_il3 (q := 35) dX12_prefers_34 rfl ?_
      refine zp_il5 (q := 37) dX12_prefers_35 rfl ?_
      refine zr_if_lt (q := 62) (q2 := 40) dX12_prefers_37 (by decide) rfl (fun h37 => ?_) (fun h37 => ?_)
      · refine zr_iconst (q := 63) dX12_prefers_62 rfl (z_in_of rfl) ?_
        refine zr_iadd (q := 64) dX12_prefers_63 rfl (fun hA hB => by unfold z_in at hA hB ⊢; omega) ?_
        refine zp_is3 (q := 65) dX12_prefers_64 rfl rfl rfl ?_
        refine zp_inc4 (q := 68) dX12_prefers_65 rfl rfl rfl (fun hA => by unfold z_in at hA ⊢; omega) ?_
        refine zr_goto (q := 5) dX12_prefers_68 (by decide) ?_
        exact zr_drop 5 (zr_drop 6 (ih (k + 1) _ (by omega) (by omega) (by omega) (by omega) (by omega) (by rw [zU_s _ (by omega), ← hx]; omega)))
      · refine zp_il6 (q := 42) dX12_prefers_40 rfl ?_
        refine zr_if_lt (q := 52) (q2 := 45) dX12_prefers_42 (by decide) rfl (fun h42 => ?_) (fun h42 => ?_)
        · refine zp_al0 (q := 53) dX12_prefers_52 rfl ?_
          refine zp_il4 (q := 55) dX12_prefers_53 rfl ?_
          refine zr_iconst (q := 56) dX12_prefers_55 rfl (z_in_of rfl) ?_
          refine zf_callV2 (k517) (s_X12_of H h0 (by omega) (by omega) (by omega)) mtX12_of wiX12_of weX12_of wlX12_91 (q := 59) dX12_prefers_56 rfl rfl rfl rfl rfl rfl rfl (fun r S9 M9 h8 hP => ?_) (fun k S9 M9 hP => (z_no hP.1 rfl).elim)
          obtain ⟨rfl, rfl, h9⟩ := hP
          subst M9
          rw [Int.add_zero]
          refine zr_goto (q := 63) dX12_prefers_59 (by decide) ?_
          refine zr_iadd (q := 64) dX12_prefers_63 rfl (fun hA hB => by unfold z_in at hA hB ⊢; omega) ?_
          refine zp_is3 (q := 65) dX12_prefers_64 rfl rfl rfl ?_
          refine zp_inc4 (q := 68) dX12_prefers_65 rfl rfl rfl (fun hA => by unfold z_in at hA ⊢; omega) ?_
          refine zr_goto (q := 5) dX12_prefers_68 (by decide) ?_
          exact zr_drop 5 (zr_drop 6 (ih (k + 1) _ (by omega) (by omega) (by omega) (by omega) (by omega) (by rw [zU_s _ (by omega), ← hx]; omega)))
        · refine zp_il5 (q := 47) dX12_prefers_45 rfl ?_
          refine zp_il6 (q := 49) dX12_prefers_47 rfl ?_
          refine zr_icmp_ge (q := 62) (q2 := 52) dX12_prefers_49 (by decide) rfl (fun h49 => ?_) (fun h49 => ?_)
          · refine zr_iconst (q := 63) dX12_prefers_62 rfl (z_in_of rfl) ?_
            refine zr_iadd (q := 64) dX12_prefers_63 rfl (fun hA hB => by unfold z_in at hA hB ⊢; omega) ?_
            refine zp_is3 (q := 65) dX12_prefers_64 rfl rfl rfl ?_
            refine zp_inc4 (q := 68) dX12_prefers_65 rfl rfl rfl (fun hA => by unfold z_in at hA ⊢; omega) ?_
            refine zr_goto (q := 5) dX12_prefers_68 (by decide) ?_
            exact zr_drop 5 (zr_drop 6 (ih (k + 1) _ (by omega) (by omega) (by omega) (by omega) (by omega) (by rw [zU_s _ (by omega), ← hx]; omega)))
          · refine zp_al0 (q := 53) dX12_prefers_52 rfl ?_
            refine zp_il4 (q := 55) dX12_prefers_53 rfl ?_
            refine zr_iconst (q := 56) dX12_prefers_55 rfl (z_in_of rfl) ?_
            refine zf_callV2 (k517) (s_X12_of H h0 (by omega) (by omega) (by omega)) mtX12_of wiX12_of weX12_of wlX12_91 (q := 59) dX12_prefers_56 rfl rfl rfl rfl rfl rfl rfl (fun r S9 M9 h8 hP => ?_) (fun k S9 M9 hP => (z_no hP.1 rfl).elim)
            obtain ⟨rfl, rfl, h9⟩ := hP
            subst M9
            rw [Int.add_zero]
            refine zr_goto (q := 63) dX12_prefers_59 (by decide) ?_
            refine zr_iadd (q := 64) dX12_prefers_63 rfl (fun hA hB => by unfold z_in at hA hB ⊢; omega) ?_
            refine zp_is3 (q := 65) dX12_prefers_64 rfl rfl rfl ?_
            refine zp_inc4 (q := 68) dX12_prefers_65 rfl rfl rfl (fun hA => by unfold z_in at hA ⊢; omega) ?_
            refine zr_goto (q := 5) dX12_prefers_68 (by decide) ?_
            exact zr_drop 5 (zr_drop 6 (ih (k + 1) _ (by omega) (by omega) (by omega) (by omega) (by omega) (by rw [zU_s _ (by omega), ← hx]; omega)))
theorem s_X12_prefers (H : zHm M) (hG : zWF (M 518)) {w o : Int} : z_Call mX12_prefers zF [(1, 517), (0, w), (0, o)] M (zpF 0 (zPrf (M 518) w o) M) := by
  have hn := hG.n
  refine z_enter (k := 4) rfl rfl rfl ?_
  refine zr_iconst (q := 1) dX12_prefers_0 rfl (z_in_of rfl) ?_
  refine zp_is3 (q := 2) dX12_prefers_1 rfl rfl rfl ?_
  refine zr_iconst (q := 3) dX12_prefers_2 rfl (z_in_of rfl) ?_
  refine zp_is4 (q := 5) dX12_prefers_3 rfl rfl rfl ?_
  exact s_X12_prefers_l H hG 21 0 0 (by omega) (by omega) (by omega) (by omega) (by omega) rfl
theorem s_X12_isOver (H : zHm M) (hG : zWF (M 518)) {w o : Int} : z_Call mX12_isOver zF [(1, 517), (0, w), (0, o)] M (zpF 0 (if zPrf (M 518) o w < zPrf (M 518) w o then 1 else 0) M) := by
  refine z_enter (k := 0) rfl rfl rfl ?_
  refine zp_al0 (q := 1) dX12_isOver_0 rfl ?_
  refine zp_il1 (q := 2) dX12_isOver_1 rfl ?_
  refine zp_il2 (q := 3) dX12_isOver_2 rfl ?_
  refine zf_callV2 (k517) (s_X12_prefers H hG) mtX12_prefers wiX12_prefers weX12_prefers wlX12_143 (q := 6) dX12_isOver_3 rfl rfl rfl rfl rfl rfl rfl (fun r S9 M9 h8 hP => ?_) (fun k S9 M9 hP => (z_no hP.1 rfl).elim)
  obtain ⟨rfl, rfl, h9⟩ := hP
  subst M9
  refine zp_al0 (q := 7) dX12_isOver_6 rfl ?_
  refine zp_il2 (q := 8) dX12_isOver_7 rfl ?_
  refine zp_il1 (q := 9) dX12_isOver_8 rfl ?_
  refine zf_callV2 (k517) (s_X12_prefers H hG) mtX12_prefers wiX12_prefers weX12_prefers wlX12_143 (q := 12) dX12_isOver_9 rfl rfl rfl rfl rfl rfl rfl (fun r S9 M9 h8 hP => ?_) (fun k S9 M9 hP => (z_no hP.1 rfl).elim)
  obtain ⟨rfl, rfl, h9⟩ := hP
  subst M9
  refine zr_icmp_le (q := 19) (q2 := 15) dX12_isOver_12 (by decide) rfl (fun h12 => ?_) (fun h12 => ?_)
  · refine zr_iconst (q := 20) dX12_isOver_19 rfl (z_in_of rfl) ?_
    refine zr_ireturn dX12_isOver_20 rfl (z_fit_z (by decide)) ?_
    exact ⟨by first | rw [if_pos (by omega)] | rw [if_neg (by omega)], rfl, rfl⟩
  · refine zr_iconst (q := 16) dX12_isOver_15 rfl (z_in_of rfl) ?_
    refine zr_goto (q := 20) dX12_isOver_16 (by decide) ?_
    refine zr_ireturn dX12_isOver_20 rfl (z_fit_z (by decide)) ?_
    exact ⟨by first | rw [if_pos (by omega)] | rw [if_neg (by omega)], rfl, rfl⟩
theorem s_X12_beaten_l (H : zHm M) (hG : zWF (M 518)) {w : Int} {bc bs : Nat} : ∀ (m : Nat) (k x : Int), 0 ≤ k → k ≤ M 518 0 → M 518 0 - k < m → 0 ≤ x → x ≤ k → x = zU (fun o => if M 518 (4 + o) = 0 ∧ zPrf (M 518) o w < zPrf (M 518) w o then 1 else 0) k →
    z_Ex mX12_beaten zF 4 [(1, 517), (0, w), (0, x), (0, k)] [] M bc bs (zpF 0 (zBt (M 518) w) M) := by
  have hw := hG.w
  intro m
  induction m with
  | zero => intro k x h0 h1 h2; omega
  | succ m ih =>
    intro k x h0 h1 h2 h3 h4 hx
    refine zp_il3 (q := 5) dX12_beaten_4 rfl ?_
    refine zp_al0 (q := 6) dX12_beaten_5 rfl ?_
    refine zf_getG (v := 518) 0 (k517) (H.1) rfl fdX12_7 (q := 9) dX12_beaten_6 rfl rfl ?_
    refine zr_iconst (q := 10) dX12_beaten_9 rfl (z_in_of rfl) ?_
    refine zf_iald (v := _) (k518) (rfl) (q := 11) dX12_beaten_10 rfl (by omega) (by omega) ?_
    refine zr_icmp_ge (q := 45) (q2 := 14) dX12_beaten_11 (by decide) rfl (fun h11 => ?_) (fun h11 => ?_)
    · refine zp_il2 (q := 46) dX12_beaten_45 rfl ?_
      refine zr_ireturn dX12_beaten_46 rfl (z_fit_i _) ?_
      exact ⟨by rw [hx, show k = M 518 0 by omega]; rfl, rfl, rfl⟩
    · refine zp_il2 (q := 15) dX12_beaten_14 rfl ?_
      refine zp_al0 (q := 16) dX12_beaten_15 rfl ?_
      refine zp_il3 (q := 17) dX12_beaten_16 rfl ?_
      refine zf_callV1 (k517) (s_X12_stands H h0 (by omega)) mtX12_stands wiX12_stands weX12_stands wlX12_70 (q := 20) dX12_beaten_17 rfl rfl rfl rfl rfl rfl rfl (fun r S9 M9 h8 hP => ?_) (fun k S9 M9 hP => (z_no hP.1 rfl).elim)
      obtain ⟨rfl, rfl, h9⟩ := hP
      subst M9
      refine zr_if_eq (q := 36) (q2 := 23) dX12_beaten_20 (by decide) rfl (fun h20 => ?_) (fun h20 => ?_)
      · refine zr_iconst (q := 37) dX12_beaten_36 rfl (z_in_of rfl) ?_
        refine zr_iadd (q := 38) dX12_beaten_37 rfl (fun hA hB => by unfold z_in at hA hB ⊢; omega) ?_
        refine zp_is2 (q := 39) dX12_beaten_38 rfl rfl rfl ?_
        refine zp_inc3 (q := 42) dX12_beaten_39 rfl rfl rfl (fun hA => by unfold z_in at hA ⊢; omega) ?_
        refine zr_goto (q := 4) dX12_beaten_42 (by decide) ?_
        exact ih (k + 1) _ (by omega) (by omega) (by omega) (by omega) (by omega) (by rw [zU_s _ (by omega), ← hx]; omega)
      · refine zp_al0 (q := 24) dX12_beaten_23 rfl ?_
        refine zp_il1 (q := 25) dX12_beaten_24 rfl ?_
        refine zp_il3 (q := 26) dX12_beaten_25 rfl ?_
        refine zf_callV2 (k517) (s_X12_isOver H hG) mtX12_isOver wiX12_isOver weX12_isOver wlX12_146 (q := 29) dX12_beaten_26 rfl rfl rfl rfl rfl rfl rfl (fun r S9 M9 h8 hP => ?_) (fun k S9 M9 hP => (z_no hP.1 rfl).elim)
        obtain ⟨rfl, rfl, h9⟩ := hP
        subst M9
        refine zr_if_eq (q := 36) (q2 := 32) dX12_beaten_29 (by decide) rfl (fun h29 => ?_) (fun h29 => ?_)
        · refine zr_iconst (q := 37) dX12_beaten_36 rfl (z_in_of rfl) ?_
          refine zr_iadd (q := 38) dX12_beaten_37 rfl (fun hA hB => by unfold z_in at hA hB ⊢; omega) ?_
          refine zp_is2 (q := 39) dX12_beaten_38 rfl rfl rfl ?_
          refine zp_inc3 (q := 42) dX12_beaten_39 rfl rfl rfl (fun hA => by unfold z_in at hA ⊢; omega) ?_
          refine zr_goto (q := 4) dX12_beaten_42 (by decide) ?_
          exact ih (k + 1) _ (by omega) (by omega) (by omega) (by omega) (by omega) (by rw [zU_s _ (by omega), ← hx]; omega)
        · refine zr_iconst (q := 33) dX12_beaten_32 rfl (z_in_of rfl) ?_
          refine zr_goto (q := 37) dX12_beaten_33 (by decide) ?_
          refine zr_iadd (q := 38) dX12_beaten_37 rfl (fun hA hB => by unfold z_in at hA hB ⊢; omega) ?_
          refine zp_is2 (q := 39) dX12_beaten_38 rfl rfl rfl ?_
          refine zp_inc3 (q := 42) dX12_beaten_39 rfl rfl rfl (fun hA => by unfold z_in at hA ⊢; omega) ?_
          refine zr_goto (q := 4) dX12_beaten_42 (by decide) ?_
          exact ih (k + 1) _ (by omega) (by omega) (by omega) (by omega) (by omega) (by rw [zU_s _ (by omega), ← hx]; omega)
theorem s_X12_beaten (H : zHm M) (hG : zWF (M 518)) {w : Int} : z_Call mX12_beaten zF [(1, 517), (0, w)] M (zpF 0 (zBt (M 518) w) M) := by
  have hw := hG.w
  refine z_enter (k := 2) rfl rfl rfl ?_
  refine zr_iconst (q := 1) dX12_beaten_0 rfl (z_in_of rfl) ?_
  refine zp_is2 (q := 2) dX12_beaten_1 rfl rfl rfl ?_
  refine zr_iconst (q := 3) dX12_beaten_2 rfl (z_in_of rfl) ?_
  refine zp_is3 (q := 4) dX12_beaten_3 rfl rfl rfl ?_
  exact s_X12_beaten_l H hG 9 0 0 (by omega) (by omega) (by omega) (by omega) (by omega) rfl
theorem zSt_range2 {G : Int → Int} (hG : zWF G) : 0 ≤ zSt G ∧ zSt G ≤ G 0 := by
  have a := zU_le (f := fun w => if G (4 + w) = 0 then 1 else 0) (n := G 0) (lo := 0) (hi := 1) hG.w.1 (fun k _ _ => by split <;> omega)
  unfold zSt
  omega
theorem s_X12_champion_l (H : zHm M) (hG : zWF (M 518)) {bc bs : Nat} : ∀ (m : Nat) (k : Int), 0 ≤ k → k ≤ M 518 0 → M 518 0 - k < m → (∀ j, 0 ≤ j → j < k → ¬ (M 518 (4 + j) = 0 ∧ zBt (M 518) j = zSt (M 518) - 1)) →
    z_Ex mX12_champion zF 2 [(1, 517), (0, k)] [] M bc bs (zpF 0 (if zCh (M 518) = -1 then 0 else zCh (M 518)) (z_up M 517 7 (if zCh (M 518) = -1 then 1 else 0))) := by
  have hw := hG.w
  have hs := zSt_range2 hG
  intro m
  induction m with
  | zero => intro k h0 h1 h2; omega
  | succ m ih =>
    intro k h0 h1 h2 hx
    refine zp_il1 (q := 3) dX12_champion_2 rfl ?_
    refine zp_al0 (q := 4) dX12_champion_3 rfl ?_
    refine zf_getG (v := 518) 0 (k517) (H.1) rfl fdX12_7 (q := 7) dX12_champion_4 rfl rfl ?_
    refine zr_iconst (q := 8) dX12_champion_7 rfl (z_in_of rfl) ?_
    refine zf_iald (v := _) (k518) (rfl) (q := 9) dX12_champion_8 rfl (by omega) (by omega) ?_
    refine zr_icmp_ge (q := 50) (q2 := 12) dX12_champion_9 (by decide) rfl (fun h9 => ?_) (fun h9 => ?_)
    · refine zp_al0 (q := 51) dX12_champion_50 rfl ?_
      refine zr_iconst (q := 52) dX12_champion_51 rfl (z_in_of rfl) ?_
      refine zf_putG 7 (k517) rfl fpX12_52 (q := 55) dX12_champion_52 rfl rfl (by decide) (z_fit_i _) ?_
      refine zr_iconst (q := 56) dX12_champion_55 rfl (z_in_of rfl) ?_
      refine zr_ireturn dX12_champion_56 rfl (z_fit_i _) ?_
      have e : zCh (M 518) = -1 := zFs_no (fun j a1 a2 => decide_eq_false (hx j a1 (by omega)))
      exact ⟨by rw [if_pos e], rfl, by rw [if_pos e] <;> rfl⟩
    · refine zp_al0 (q := 13) dX12_champion_12 rfl ?_
      refine zp_il1 (q := 14) dX12_champion_13 rfl ?_
      refine zf_callV1 (k517) (s_X12_stands H h0 (by omega)) mtX12_stands wiX12_stands weX12_stands wlX12_70 (q := 17) dX12_champion_14 rfl rfl rfl rfl rfl rfl rfl (fun r S9 M9 h8 hP => ?_) (fun k S9 M9 hP => (z_no hP.1 rfl).elim)
      obtain ⟨rfl, rfl, h9⟩ := hP
      subst M9
      refine zr_if_eq (q := 44) (q2 := 20) dX12_champion_17 (by decide) rfl (fun h17 => ?_) (fun h17 => ?_)
      · refine zp_inc1 (q := 47) dX12_champion_44 rfl rfl rfl (fun hA => by unfold z_in at hA ⊢; omega) ?_
        refine zr_goto (q := 2) dX12_champion_47 (by decide) ?_
        exact ih (k + 1) (by omega) (by omega) (by omega) (fun j a1 a2 => by
          by_cases e : j = k
          · rw [e]; omega
          · exact hx j a1 (by omega))
      · refine zp_al0 (q := 21) dX12_champion_20 rfl ?_
        refine zp_il1 (q := 22) dX12_champion_21 rfl ?_
        refine zf_callV1 (k517) (s_X12_beaten H hG) mtX12_beaten wiX12_beaten weX12_beaten wlX12_149 (q := 25) dX12_champion_22 rfl rfl rfl rfl rfl rfl rfl (fun r S9 M9 h8 hP => ?_) (fun k S9 M9 hP => (z_no hP.1 rfl).elim)
        obtain ⟨rfl, rfl, h9⟩ := hP
        subst M9
        refine zp_al0 (q := 26) dX12_champion_25 rfl ?_
        refine zf_callV0 (k517) (s_X12_standing H hG) mtX12_standing wiX12_standing weX12_standing wlX12_84 (q := 29) dX12_champion_26 rfl rfl rfl rfl rfl rfl rfl (fun r S9 M9 h8 hP => ?_) (fun k S9 M9 hP => (z_no hP.1 rfl).elim)
        obtain ⟨rfl, rfl, h9⟩ := hP
        subst M9
        refine zr_iconst (q := 30) dX12_champion_29 rfl (z_in_of rfl) ?_
        refine zr_isub (q := 31) dX12_champion_30 rfl (fun hA hB => by unfold z_in at hA hB ⊢; omega) ?_
        refine zr_icmp_eq (q := 37) (q2 := 34) dX12_champion_31 (by decide) rfl (fun h31 => ?_) (fun h31 => ?_)
        · refine zp_al0 (q := 38) dX12_champion_37 rfl ?_
          refine zr_iconst (q := 39) dX12_champion_38 rfl (z_in_of rfl) ?_
          refine zf_putG 7 (k517) rfl fpX12_52 (q := 42) dX12_champion_39 rfl rfl (by decide) (z_fit_i _) ?_
          refine zp_il1 (q := 43) dX12_champion_42 rfl ?_
          refine zr_ireturn dX12_champion_43 rfl (z_fit_i _) ?_
          have e : zCh (M 518) = k := zFs_yes h0 (by omega) (decide_eq_true (by omega)) (fun j a1 a2 => decide_eq_false (hx j a1 a2))
          exact ⟨by rw [e, if_neg (by omega)], rfl, by rw [e, if_neg (by omega)] <;> rfl⟩
        · refine zr_goto (q := 44) dX12_champion_34 (by decide) ?_
          refine zp_inc1 (q := 47) dX12_champion_44 rfl rfl rfl (fun hA => by unfold z_in at hA ⊢; omega) ?_
          refine zr_goto (q := 2) dX12_champion_47 (by decide) ?_
          exact ih (k + 1) (by omega) (by omega) (by omega) (fun j a1 a2 => by
            by_cases e : j = k
            · rw [e]; omega
            · exact hx j a1 (by omega))
theorem s_X12_champion (H : zHm M) (hG : zWF (M 518)) : z_Call mX12_champion zF [(1, 517)] M (zpF 0 (if zCh (M 518) = -1 then 0 else zCh (M 518)) (z_up M 517 7 (if zCh (M 518) = -1 then 1 else 0))) := by
  have hw := hG.w
  refine z_enter (k := 1) rfl rfl rfl ?_
  refine zr_iconst (q := 1) dX12_champion_0 rfl (z_in_of rfl) ?_
  refine zp_is1 (q := 2) dX12_champion_1 rfl rfl rfl ?_
  exact s_X12_champion_l H hG 9 0 (by omega) (by omega) (by omega) (fun j a1 a2 => by omega)
theorem s_X12_championOfPairs (H : zHm M) (hG : zWF (M 518)) : z_Call mX12_championOfPairs zF [(1, 517)] M (zpF 0 (if zCh (M 518) = -1 then 0 else zCh (M 518)) (z_up M 517 7 (if zCh (M 518) = -1 then 1 else 0))) := by
  refine z_enter (k := 0) rfl rfl rfl ?_
  refine zp_al0 (q := 1) dX12_championOfPairs_0 rfl ?_
  refine zf_callV0 (k517) (s_X12_champion H hG) mtX12_champion wiX12_champion weX12_champion wlX12_152 (q := 4) dX12_championOfPairs_1 rfl rfl rfl rfl rfl rfl rfl (fun r S9 M9 h8 hP => ?_) (fun k S9 M9 hP => (z_no hP.1 rfl).elim)
  obtain ⟨rfl, rfl, h9⟩ := hP
  subst M9
  refine zr_ireturn dX12_championOfPairs_4 rfl (z_fit_i _) ?_
  exact ⟨rfl, rfl, rfl⟩
theorem s_X12_championByDuels (H : zHm M) (hG : zWF (M 518)) : z_Call mX12_championByDuels zF [(1, 517)] M (zpF 0 (if zCh (M 518) = -1 then 0 else zCh (M 518)) (z_up M 517 7 (if zCh (M 518) = -1 then 1 else 0))) := by
  refine z_enter (k := 0) rfl rfl rfl ?_
  refine zp_al0 (q := 1) dX12_championByDuels_0 rfl ?_
  refine zf_callV0 (k517) (s_X12_champion H hG) mtX12_champion wiX12_champion weX12_champion wlX12_152 (q := 4) dX12_championByDuels_1 rfl rfl rfl rfl rfl rfl rfl (fun r S9 M9 h8 hP => ?_) (fun k S9 M9 hP => (z_no hP.1 rfl).elim)
  obtain ⟨rfl, rfl, h9⟩ := hP
  subst M9
  refine zr_ireturn dX12_championByDuels_4 rfl (z_fit_i _) ?_
  exact ⟨rfl, rfl, rfl⟩
theorem zSc_up2 {G : Int → Int} (hG : zWF G) {w k : Int} (h0 : 0 ≤ k) (h1 : k < G 1) : 0 ≤ G (20 + 7 * k) * (5 - zPl G k w) ∧ G (20 + 7 * k) * (5 - zPl G k w) ≤ 594 := by
  have h2 := hG.wt h0 h1
  have h3 := zPl_range hG h0 h1 w
  refine ⟨Int.mul_nonneg (by omega) (by omega), ?_⟩
  have := Int.mul_le_mul (a := G (20 + 7 * k)) (b := 5 - zPl G k w) (c := 99) (d := 6) (by omega) (by omega) (by omega) (by omega)
  omega
theorem s_X12_score_l (H : zHm M) (hG : zWF (M 518)) {w : Int} {bc bs : Nat} : ∀ (m : Nat) (k x : Int), 0 ≤ k → k ≤ M 518 1 → M 518 1 - k < m → 0 ≤ x → x ≤ 594 * k → x = zU (fun b => if zPl (M 518) b w = -1 then 0 else M 518 (20 + 7 * b) * (5 - zPl (M 518) b w)) k →
    z_Ex mX12_score zF 4 [(1, 517), (0, w), (0, x), (0, k)] [] M bc bs (zpF 0 (zSc (M 518) w) M) := by
  have hn := hG.n
  intro m
  induction m with
  | zero => intro k x h0 h1 h2; omega
  | succ m ih =>
    intro k x h0 h1 h2 h3 h4 hx
    refine zp_il3 (q := 5) dX12_score_4 rfl ?_
    refine zp_al0 (q := 6) dX12_score_5 rfl ?_
    refine zf_getG (v := 518) 0 (k517) (H.1) rfl fdX12_7 (q := 9) dX12_score_6 rfl rfl ?_
    refine zr_iconst (q := 10) dX12_score_9 rfl (z_in_of rfl) ?_
    refine zf_iald (v := _) (k518) (rfl) (q := 11) dX12_score_10 rfl (by omega) (by omega) ?_
    refine zr_icmp_ge (q := 51) (q2 := 14) dX12_score_11 (by decide) rfl (fun h11 => ?_) (fun h11 => ?_)
    · refine zp_il2 (q := 52) dX12_score_51 rfl ?_
      refine zr_ireturn dX12_score_52 rfl (z_fit_i _) ?_
      exact ⟨by rw [hx, show k = M 518 1 by omega]; rfl, rfl, rfl⟩
    · have hb := hG.wt h0 (show k < M 518 1 by omega)
      have hp := zPl_range hG h0 (show k < M 518 1 by omega) w
      have hu := zSc_up2 hG (w := w) h0 (show k < M 518 1 by omega)
      refine zp_il2 (q := 15) dX12_score_14 rfl ?_
      refine zp_al0 (q := 16) dX12_score_15 rfl ?_
      refine zp_il3 (q := 17) dX12_score_16 rfl ?_
      refine zp_il1 (q := 18) dX12_score_17 rfl ?_
      refine zf_callV2 (k517) (s_X12_ranked H hG h0 (by omega)) mtX12_ranked wiX12_ranked weX12_ranked wlX12_101 (q := 21) dX12_score_18 rfl rfl rfl rfl rfl rfl rfl (fun r S9 M9 h8 hP => ?_) (fun k S9 M9 hP => (z_no hP.1 rfl).elim)
      obtain ⟨rfl, rfl, h9⟩ := hP
      subst M9
      refine zr_if_ge (q := 28) (q2 := 24) dX12_score_21 (by decide) rfl (fun h21 => ?_) (fun h21 => ?_)
      · refine zp_al0 (q := 29) dX12_score_28 rfl ?_
        refine zp_il3 (q := 30) dX12_score_29 rfl ?_
        refine zr_iconst (q := 31) dX12_score_30 rfl (z_in_of rfl) ?_
        refine zf_callV2 (k517) (s_X12_of H h0 (by omega) (by omega) (by omega)) mtX12_of wiX12_of weX12_of wlX12_91 (q := 34) dX12_score_31 rfl rfl rfl rfl rfl rfl rfl (fun r S9 M9 h8 hP => ?_) (fun k S9 M9 hP => (z_no hP.1 rfl).elim)
        obtain ⟨rfl, rfl, h9⟩ := hP
        subst M9
        rw [Int.add_zero]
        refine zr_iconst (q := 35) dX12_score_34 rfl (z_in_of rfl) ?_
        refine zp_al0 (q := 36) dX12_score_35 rfl ?_
        refine zp_il3 (q := 37) dX12_score_36 rfl ?_
        refine zp_il1 (q := 38) dX12_score_37 rfl ?_
        refine zf_callV2 (k517) (s_X12_ranked H hG h0 (by omega)) mtX12_ranked wiX12_ranked weX12_ranked wlX12_101 (q := 41) dX12_score_38 rfl rfl rfl rfl rfl rfl rfl (fun r S9 M9 h8 hP => ?_) (fun k S9 M9 hP => (z_no hP.1 rfl).elim)
        obtain ⟨rfl, rfl, h9⟩ := hP
        subst M9
        refine zr_isub (q := 42) dX12_score_41 rfl (fun hA hB => by unfold z_in at hA hB ⊢; omega) ?_
        refine zr_imul (q := 43) dX12_score_42 rfl (fun hA hB => by unfold z_in at hA hB ⊢; omega) ?_
        refine zr_iadd (q := 44) dX12_score_43 rfl (fun hA hB => by unfold z_in at hA hB ⊢; omega) ?_
        refine zp_is2 (q := 45) dX12_score_44 rfl rfl rfl ?_
        refine zp_inc3 (q := 48) dX12_score_45 rfl rfl rfl (fun hA => by unfold z_in at hA ⊢; omega) ?_
        refine zr_goto (q := 4) dX12_score_48 (by decide) ?_
        exact ih (k + 1) _ (by omega) (by omega) (by omega) (by omega) (by omega) (by rw [zU_s _ (by omega), ← hx]; omega)
      · refine zr_iconst (q := 25) dX12_score_24 rfl (z_in_of rfl) ?_
        refine zr_goto (q := 43) dX12_score_25 (by decide) ?_
        refine zr_iadd (q := 44) dX12_score_43 rfl (fun hA hB => by unfold z_in at hA hB ⊢; omega) ?_
        refine zp_is2 (q := 45) dX12_score_44 rfl rfl rfl ?_
        refine zp_inc3 (q := 48) dX12_score_45 rfl rfl rfl (fun hA => by unfold z_in at hA ⊢; omega) ?_
        refine zr_goto (q := 4) dX12_score_48 (by decide) ?_
        exact ih (k + 1) _ (by omega) (by omega) (by omega) (by omega) (by omega) (by rw [zU_s _ (by omega), ← hx]; omega)
theorem s_X12_score (H : zHm M) (hG : zWF (M 518)) {w : Int} : z_Call mX12_score zF [(1, 517), (0, w)] M (zpF 0 (zSc (M 518) w) M) := by
  have hn := hG.n
  refine z_enter (k := 2) rfl rfl rfl ?_
  refine zr_iconst (q := 1) dX12_score_0 rfl (z_in_of rfl) ?_
  refine zp_is2 (q := 2) dX12_score_1 rfl rfl rfl ?_
  refine zr_iconst (q := 3) dX12_score_2 rfl (z_in_of rfl) ?_
  refine zp_is3 (q := 4) dX12_score_3 rfl rfl rfl ?_
  exact s_X12_score_l H hG 21 0 0 (by omega) (by omega) (by omega) (by omega) (by omega) rfl
end ZB
