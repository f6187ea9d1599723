/-! ===== counting calls of the reference ===== -/
/-- counted, with this code -/
def zcF (M M' : zM) (c : Int) : Prop := (∀ z, z ≠ 517 → z ≠ 524 → z ≠ 525 → z ≠ 526 → z ≠ 527 → M' z = M z) ∧ (∀ j, j ≠ 7 → j ≠ 18 → j ≠ 19 → j ≠ 20 → M' 517 j = M 517 j) ∧ M' 517 7 = c
abbrev zcA (v : zV) (c : Int) (M : zM) : zV → zS → zM → Prop := fun r S' M' => r = v ∧ S' = zF ∧ zcF M M' c
section ZCA
variable {M : zM}
theorem zMt.c {M' : zM} {x : Int} (h : zMt M M' (M 518)) : (∀ z, z ≠ 517 → z ≠ 524 → z ≠ 525 → z ≠ 526 → z ≠ 527 → z_up M' 517 7 x z = M z) ∧ (∀ j, j ≠ 7 → j ≠ 18 → j ≠ 19 → j ≠ 20 → z_up M' 517 7 x 517 j = M 517 j) ∧ z_up M' 517 7 x 517 7 = x :=
  ⟨fun z a b c d e => by rw [z_up_ne a]; exact h.1 z a b c d e, fun j a b c d => by rw [z_up_sl a]; exact h.2.1 j b c d, z_up_eq⟩
theorem zMt.h {M' : zM} (h : zMt M M' (M 518)) (H : zHm M) : zHm M' := H.of (fun j _ _ a b c => h.2.1 j a b c)
theorem zMt.g {M' : zM} (h : zMt M M' (M 518)) : M' 518 = M 518 := h.1 518 (by decide) (by decide) (by decide) (by decide) (by decide)
theorem zEl_in {G : Int → Int} (hG : zWF G) (hs : 1 ≤ zSt G) {i : Int} (h0 : 0 ≤ i) (h1 : i < zRn G) : zEl (zVr G i) (zP G i) = -1 ↔ i = zRn G - 1 := by
  have hsp := zRn_spec hG hs
  constructor
  · intro e
    apply Classical.byContradiction
    intro n
    have hw := hsp.2.2.2.1 i h0 (by omega)
    obtain ⟨w, w0, w1, w2⟩ := (zA_alive hG hs h0 (by omega) (fun j j0 j1 => hsp.2.2.2.1 j j0 (by omega))).2
    have := zEl_ex (V := zVr G i) (s := zP G i) w0 w1 (fun e => by rw [(zVo_ne hG _ w).mp e] at w2; cases w2) hw (zP_range hG h0).1
    omega
  · intro e
    unfold zEl
    rw [e]
    exact if_neg hsp.2.2.2.2
theorem zRn_0 {G : Int → Int} (hs : zSt G = 0) : zRn G = 0 := if_pos hs
theorem zRn_le {G : Int → Int} (hG : zWF G) : 0 ≤ zRn G ∧ zRn G ≤ 8 := by
  have hst := zSt_range hG
  by_cases h : zSt G = 0
  · rw [zRn_0 h]; omega
  · have := zRn_spec hG (by omega); omega
theorem zW_neg {G : Int → Int} (hG : zWF G) : zW G = -1 ↔ zSt G = 0 := by
  have hst := zSt_range hG
  constructor
  · intro e
    apply Classical.byContradiction
    intro n
    have := zW_range hG (by omega)
    omega
  · intro e
    exact if_pos e
theorem s_X12_elected (H : zHm M) (hG : zWF (M 518)) (hs : zSt (M 518) ≠ 0) : z_Call mX12_elected zF [(1, 517)] M (fun r S' M' => r = (0, zW (M 518)) ∧ S' = zF ∧ zcF M M' 0 ∧ M' 517 20 = zP (M 518) (zRn (M 518))) := by
  have hst := zSt_range hG
  have hw := zW_range hG (by omega)
  refine z_enter (k := 0) rfl rfl rfl ?_
  refine zp_al0 (q := 1) dX12_elected_0 rfl ?_
  refine zf_callV0 (k517) (s_X12_counts H hG) mtX12_counts wiX12_counts weX12_counts wlX12_130 (q := 4) dX12_elected_1 rfl rfl rfl rfl rfl rfl rfl (fun r S9 M9 h8 hP => ?_) (fun k S9 M9 hP => (z_no hP.1 rfl).elim)
  obtain ⟨rfl, rfl, hT⟩ := hP
  have HT := hT.h H
  have eT := hT.g
  refine zp_al0 (q := 5) dX12_elected_4 rfl ?_
  refine zp_al0 (q := 6) dX12_elected_5 rfl ?_
  refine zf_getG (v := zW (M 518)) 19 (k517) (hT.2.2.2.1) rfl fdX12_116 (q := 9) dX12_elected_6 rfl rfl ?_
  refine zr_if_ge (q := 16) (q2 := 12) dX12_elected_9 (by decide) rfl (fun h9 => ?_) (fun h9 => ?_)
  · refine zr_iconst (q := 17) dX12_elected_16 rfl (z_in_of rfl) ?_
    refine zf_callV1 (k517) (s_X12_fails) mtX12_fails wiX12_fails weX12_fails wlX12_77 (q := 20) dX12_elected_17 rfl rfl rfl rfl rfl rfl rfl (fun r S9 M9 h8 hP => ?_) (fun k S9 M9 hP => (z_no hP.1 rfl).elim)
    obtain ⟨rfl, rfl, h9⟩ := hP
    subst M9
    refine zr_if_eq (q := 27) (q2 := 23) dX12_elected_20 (by decide) rfl (fun h20 => ?_) (fun h20 => ?_)
    · refine zp_al0 (q := 28) dX12_elected_27 rfl ?_
      refine zf_getG (v := zW (M 518)) 19 (k517) (by rw [z_up_sl (by decide)]; exact hT.2.2.2.1) rfl fdX12_116 (q := 31) dX12_elected_28 rfl rfl ?_
      refine zr_ireturn dX12_elected_31 rfl (z_fit_i _) ?_
      exact ⟨rfl, rfl, hT.c, (z_up_sl (by decide)).trans hT.2.2.2.2.1⟩
    · exact absurd h20 (by decide)
  · exact absurd h9 (by omega)
theorem s_X12_elected_x (H : zHm M) (hG : zWF (M 518)) (hs : zSt (M 518) = 0) : z_Call mX12_elected zF [(1, 517)] M (zcA (0, 0) 1 M) := by
  refine z_enter (k := 0) rfl rfl rfl ?_
  refine zp_al0 (q := 1) dX12_elected_0 rfl ?_
  refine zf_callV0 (k517) (s_X12_counts H hG) mtX12_counts wiX12_counts weX12_counts wlX12_130 (q := 4) dX12_elected_1 rfl rfl rfl rfl rfl rfl rfl (fun r S9 M9 h8 hP => ?_) (fun k S9 M9 hP => (z_no hP.1 rfl).elim)
  obtain ⟨rfl, rfl, hT⟩ := hP
  have HT := hT.h H
  have eT := hT.g
  refine zp_al0 (q := 5) dX12_elected_4 rfl ?_
  refine zp_al0 (q := 6) dX12_elected_5 rfl ?_
  refine zf_getG (v := -1) 19 (k517) (hT.2.2.2.1.trans ((zW_neg hG).mpr hs)) rfl fdX12_116 (q := 9) dX12_elected_6 rfl rfl ?_
  refine zr_if_ge (q := 16) (q2 := 12) dX12_elected_9 (by decide) rfl (fun h9 => ?_) (fun h9 => ?_)
  · exact absurd h9 (by omega)
  · refine zr_iconst (q := 13) dX12_elected_12 rfl (z_in_of rfl) ?_
    refine zr_goto (q := 17) dX12_elected_13 (by decide) ?_
    refine zf_callV1 (k517) (s_X12_fails) mtX12_fails wiX12_fails weX12_fails wlX12_77 (q := 20) dX12_elected_17 rfl rfl rfl rfl rfl rfl rfl (fun r S9 M9 h8 hP => ?_) (fun k S9 M9 hP => (z_no hP.1 rfl).elim)
    obtain ⟨rfl, rfl, h9⟩ := hP
    subst M9
    refine zr_if_eq (q := 27) (q2 := 23) dX12_elected_20 (by decide) rfl (fun h20 => ?_) (fun h20 => ?_)
    · exact absurd h20 (by decide)
    · refine zr_iconst (q := 24) dX12_elected_23 rfl (z_in_of rfl) ?_
      refine zr_goto (q := 31) dX12_elected_24 (by decide) ?_
      refine zr_ireturn dX12_elected_31 rfl (z_fit_i _) ?_
      exact ⟨rfl, rfl, hT.c⟩
theorem s_X12_winner (H : zHm M) (hG : zWF (M 518)) (hs : zSt (M 518) ≠ 0) : z_Call mX12_winner zF [(1, 517)] M (zcA (0, zW (M 518)) 0 M) := by
  refine z_enter (k := 0) rfl rfl rfl ?_
  refine zp_al0 (q := 1) dX12_winner_0 rfl ?_
  refine zf_callV0 (k517) (s_X12_elected H hG hs) mtX12_elected wiX12_elected weX12_elected wlX12_133 (q := 4) dX12_winner_1 rfl rfl rfl rfl rfl rfl rfl (fun r S9 M9 h8 hP => ?_) (fun k S9 M9 hP => (z_no hP.1 rfl).elim)
  obtain ⟨rfl, rfl, x1, x2⟩ := hP
  refine zr_ireturn dX12_winner_4 rfl (z_fit_i _) ?_
  exact ⟨rfl, rfl, x1⟩
theorem s_X12_winner_x (H : zHm M) (hG : zWF (M 518)) (hs : zSt (M 518) = 0) : z_Call mX12_winner zF [(1, 517)] M (zcA (0, 0) 1 M) := by
  refine z_enter (k := 0) rfl rfl rfl ?_
  refine zp_al0 (q := 1) dX12_winner_0 rfl ?_
  refine zf_callV0 (k517) (s_X12_elected_x H hG hs) mtX12_elected wiX12_elected weX12_elected wlX12_133 (q := 4) dX12_winner_1 rfl rfl rfl rfl rfl rfl rfl (fun r S9 M9 h8 hP => ?_) (fun k S9 M9 hP => (z_no hP.1 rfl).elim)
  obtain ⟨rfl, rfl, x1⟩ := hP
  refine zr_ireturn dX12_winner_4 rfl (z_fit_i _) ?_
  exact ⟨rfl, rfl, x1⟩
theorem s_X12_winnerByTransfers (H : zHm M) (hG : zWF (M 518)) (hs : zSt (M 518) ≠ 0) : z_Call mX12_winnerByTransfers zF [(1, 517)] M (zcA (0, zW (M 518)) 0 M) := by
  refine z_enter (k := 0) rfl rfl rfl ?_
  refine zp_al0 (q := 1) dX12_winnerByTransfers_0 rfl ?_
  refine zf_callV0 (k517) (s_X12_elected H hG hs) mtX12_elected wiX12_elected weX12_elected wlX12_133 (q := 4) dX12_winnerByTransfers_1 rfl rfl rfl rfl rfl rfl rfl (fun r S9 M9 h8 hP => ?_) (fun k S9 M9 hP => (z_no hP.1 rfl).elim)
  obtain ⟨rfl, rfl, x1, x2⟩ := hP
  refine zr_ireturn dX12_winnerByTransfers_4 rfl (z_fit_i _) ?_
  exact ⟨rfl, rfl, x1⟩
theorem s_X12_winnerByTransfers_x (H : zHm M) (hG : zWF (M 518)) (hs : zSt (M 518) = 0) : z_Call mX12_winnerByTransfers zF [(1, 517)] M (zcA (0, 0) 1 M) := by
  refine z_enter (k := 0) rfl rfl rfl ?_
  refine zp_al0 (q := 1) dX12_winnerByTransfers_0 rfl ?_
  refine zf_callV0 (k517) (s_X12_elected_x H hG hs) mtX12_elected wiX12_elected weX12_elected wlX12_133 (q := 4) dX12_winnerByTransfers_1 rfl rfl rfl rfl rfl rfl rfl (fun r S9 M9 h8 hP => ?_) (fun k S9 M9 hP => (z_no hP.1 rfl).elim)
  obtain ⟨rfl, rfl, x1⟩ := hP
  refine zr_ireturn dX12_winnerByTransfers_4 rfl (z_fit_i _) ?_
  exact ⟨rfl, rfl, x1⟩
theorem s_X12_roundCount (H : zHm M) (hG : zWF (M 518)) : z_Call mX12_roundCount zF [(1, 517)] M (zcA (0, zRn (M 518)) 0 M) := by
  refine z_enter (k := 0) rfl rfl rfl ?_
  refine zp_al0 (q := 1) dX12_roundCount_0 rfl ?_
  refine zr_iconst (q := 2) dX12_roundCount_1 rfl (z_in_of rfl) ?_
  refine zf_putG 7 (k517) rfl fpX12_52 (q := 5) dX12_roundCount_2 rfl rfl (by decide) (z_fit_i _) ?_
  refine zp_al0 (q := 6) dX12_roundCount_5 rfl ?_
  refine zf_callV0 (k517) (s_X12_counts H.c hG.c) mtX12_counts wiX12_counts weX12_counts wlX12_130 (q := 9) dX12_roundCount_6 rfl rfl rfl rfl rfl rfl rfl (fun r S9 M9 h8 hP => ?_) (fun k S9 M9 hP => (z_no hP.1 rfl).elim)
  obtain ⟨rfl, rfl, hT⟩ := hP
  refine zp_al0 (q := 10) dX12_roundCount_9 rfl ?_
  refine zf_getG (v := zRn (M 518)) 18 (k517) (hT.2.2.1) rfl fdX12_110 (q := 13) dX12_roundCount_10 rfl rfl ?_
  refine zr_ireturn dX12_roundCount_13 rfl (z_fit_i _) ?_
  exact ⟨rfl, rfl, fun z a b c d e => (hT.1 z a b c d e).trans (z_up_ne a), fun j a b c d => (hT.2.1 j b c d).trans (z_up_sl a), (hT.2.1 7 (by decide) (by decide) (by decide)).trans z_up_eq⟩
theorem s_X12_isRound (H : zHm M) (hG : zWF (M 518)) {i : Int} : z_Call mX12_isRound zF [(1, 517), (0, i)] M (fun r S' M' => r = (0, if 0 ≤ i ∧ i < zRn (M 518) then 1 else 0) ∧ S' = zF ∧ zMt M M' (M 518)) := by
  have hr := zRn_le hG
  refine z_enter (k := 0) rfl rfl rfl ?_
  refine zp_al0 (q := 1) dX12_isRound_0 rfl ?_
  refine zf_callV0 (k517) (s_X12_counts H hG) mtX12_counts wiX12_counts weX12_counts wlX12_130 (q := 4) dX12_isRound_1 rfl rfl rfl rfl rfl rfl rfl (fun r S9 M9 h8 hP => ?_) (fun k S9 M9 hP => (z_no hP.1 rfl).elim)
  obtain ⟨rfl, rfl, hT⟩ := hP
  have HT := hT.h H
  have eT := hT.g
  refine zp_il1 (q := 5) dX12_isRound_4 rfl ?_
  refine zr_iconst (q := 6) dX12_isRound_5 rfl (z_in_of rfl) ?_
  refine zp_al0 (q := 7) dX12_isRound_6 rfl ?_
  refine zf_getG (v := zRn (M 518)) 18 (k517) (hT.2.2.1) rfl fdX12_110 (q := 10) dX12_isRound_7 rfl rfl ?_
  refine zr_iconst (q := 11) dX12_isRound_10 rfl (z_in_of rfl) ?_
  refine zr_isub (q := 12) dX12_isRound_11 rfl (fun hA hB => by unfold z_in at hA hB ⊢; omega) ?_
  refine zp_callS3 (s_X12_in) mtX12_in wtX12_in wlX12_66 (q := 15) dX12_isRound_12 rfl rfl rfl rfl rfl (fun r S9 M9 h8 hP => ?_) (fun k S9 M9 hP => (z_no hP.1 rfl).elim)
  obtain ⟨rfl, rfl, h9⟩ := hP
  subst M9
  refine zr_ireturn dX12_isRound_15 rfl (z_fit_z (by split <;> decide)) ?_
  exact ⟨by congr 1; split <;> split <;> first | rfl | omega, rfl, hT⟩
theorem s_X12_votesIn (H : zHm M) (hG : zWF (M 518)) {i : Int} (hi : 0 ≤ i ∧ i < zRn (M 518)) {w : Int} (hw : 0 ≤ w ∧ w < M 518 0) (hv : zVr (M 518) i w ≠ -1) : z_Call mX12_votesIn zF [(1, 517), (0, i), (0, w)] M (zcA (0, zVr (M 518) i w) 0 M) := by
  have hr := zRn_le hG
  have hg := hG.w
  have hv2 := zVo_range hG (zA (M 518) i) w
  have hv3 : -1 ≤ zVr (M 518) i w := hv2.1
  refine z_enter (k := 0) rfl rfl rfl ?_
  refine zp_al0 (q := 1) dX12_votesIn_0 rfl ?_
  refine zp_al0 (q := 2) dX12_votesIn_1 rfl ?_
  refine zp_il2 (q := 3) dX12_votesIn_2 rfl ?_
  refine zf_callV1 (k517) (s_X12_isWind H hG.w) mtX12_isWind wiX12_isWind weX12_isWind wlX12_74 (q := 6) dX12_votesIn_3 rfl rfl rfl rfl rfl rfl rfl (fun r S9 M9 h8 hP => ?_) (fun k S9 M9 hP => (z_no hP.1 rfl).elim)
  obtain ⟨rfl, rfl, h9⟩ := hP
  subst M9
  rw [if_pos hw]
  refine zr_if_ne (q := 13) (q2 := 9) dX12_votesIn_6 (by decide) rfl (fun h6 => ?_) (fun h6 => ?_)
  · refine zp_al0 (q := 14) dX12_votesIn_13 rfl ?_
    refine zp_il1 (q := 15) dX12_votesIn_14 rfl ?_
    refine zf_callV1 (k517) (s_X12_isRound H hG) mtX12_isRound wiX12_isRound weX12_isRound wlX12_136 (q := 18) dX12_votesIn_15 rfl rfl rfl rfl rfl rfl rfl (fun r S9 M9 h8 hP => ?_) (fun k S9 M9 hP => (z_no hP.1 rfl).elim)
    obtain ⟨rfl, rfl, hT⟩ := hP
    rw [if_pos hi]
    have HT := hT.h H
    have eT := hT.g
    refine zr_if_eq (q := 35) (q2 := 21) dX12_votesIn_18 (by decide) rfl (fun h18 => ?_) (fun h18 => ?_)
    · exact absurd h18 (by decide)
    · refine zp_al0 (q := 22) dX12_votesIn_21 rfl ?_
      refine zf_getG (v := 524) 14 (k517) (HT.2.2.2.2.2.2.1) rfl fdX12_36 (q := 25) dX12_votesIn_22 rfl rfl ?_
      refine zr_bipush (q := 27) dX12_votesIn_25 rfl (z_in_of rfl) (by decide +kernel) ?_
      refine zp_il1 (q := 28) dX12_votesIn_27 rfl ?_
      refine zr_imul (q := 29) dX12_votesIn_28 rfl (fun hA hB => by unfold z_in at hA hB ⊢; omega) ?_
      refine zp_il2 (q := 30) dX12_votesIn_29 rfl ?_
      refine zr_iadd (q := 31) dX12_votesIn_30 rfl (fun hA hB => by unfold z_in at hA hB ⊢; omega) ?_
      refine zf_iald (v := zVr (M 518) i w) (by first | assumption | exact k518 | exact k519 | exact k520 | exact k521 | exact k522 | exact k523 | exact k524 | exact k525 | exact k526 | exact k527 | exact k528 | exact k510 | exact k512 | exact k515 | exact k516 | exact k507 | exact k509 | exact k135 | exact k489 | exact k529 | exact k530) ((hT.2.2.2.2.2 i hi.1 hi.2).1 w hw.1 (by omega)) (q := 32) dX12_votesIn_31 rfl (by omega) (by omega) ?_
      refine zr_if_ge (q := 39) (q2 := 35) dX12_votesIn_32 (by decide) rfl (fun h32 => ?_) (fun h32 => ?_)
      · refine zr_iconst (q := 40) dX12_votesIn_39 rfl (z_in_of rfl) ?_
        refine zf_callV1 (k517) (s_X12_fails) mtX12_fails wiX12_fails weX12_fails wlX12_77 (q := 43) dX12_votesIn_40 rfl rfl rfl rfl rfl rfl rfl (fun r S9 M9 h8 hP => ?_) (fun k S9 M9 hP => (z_no hP.1 rfl).elim)
        obtain ⟨rfl, rfl, h9⟩ := hP
        subst M9
        refine zr_if_eq (q := 48) (q2 := 46) dX12_votesIn_43 (by decide) rfl (fun h43 => ?_) (fun h43 => ?_)
        · refine zp_al0 (q := 49) dX12_votesIn_48 rfl ?_
          refine zf_getG (v := 524) 14 (k517) (HT.2.2.2.2.2.2.1) rfl fdX12_36 (q := 52) dX12_votesIn_49 rfl rfl ?_
          refine zr_bipush (q := 54) dX12_votesIn_52 rfl (z_in_of rfl) (by decide +kernel) ?_
          refine zp_il1 (q := 55) dX12_votesIn_54 rfl ?_
          refine zr_imul (q := 56) dX12_votesIn_55 rfl (fun hA hB => by unfold z_in at hA hB ⊢; omega) ?_
          refine zp_il2 (q := 57) dX12_votesIn_56 rfl ?_
          refine zr_iadd (q := 58) dX12_votesIn_57 rfl (fun hA hB => by unfold z_in at hA hB ⊢; omega) ?_
          refine zf_iald (v := zVr (M 518) i w) (by first | assumption | exact k518 | exact k519 | exact k520 | exact k521 | exact k522 | exact k523 | exact k524 | exact k525 | exact k526 | exact k527 | exact k528 | exact k510 | exact k512 | exact k515 | exact k516 | exact k507 | exact k509 | exact k135 | exact k489 | exact k529 | exact k530) (by rw [z_up_ne (by decide)]; exact (hT.2.2.2.2.2 i hi.1 hi.2).1 w hw.1 (by omega)) (q := 59) dX12_votesIn_58 rfl (by omega) (by omega) ?_
          refine zr_ireturn dX12_votesIn_59 rfl (z_fit_i _) ?_
          exact ⟨rfl, rfl, hT.c⟩
        · exact absurd h43 (by decide)
      · exact absurd (show (0 : Int) ≤ zVr (M 518) i w by omega) h32
  · exact absurd (by decide) h6
theorem s_X12_votesIn_x (H : zHm M) (hG : zWF (M 518)) {i : Int} {w : Int} (hw : ¬ (0 ≤ w ∧ w < M 518 0)) : z_Call mX12_votesIn zF [(1, 517), (0, i), (0, w)] M (zcA (0, 0) 1 M) := by
  refine z_enter (k := 0) rfl rfl rfl ?_
  refine zp_al0 (q := 1) dX12_votesIn_0 rfl ?_
  refine zp_al0 (q := 2) dX12_votesIn_1 rfl ?_
  refine zp_il2 (q := 3) dX12_votesIn_2 rfl ?_
  refine zf_callV1 (k517) (s_X12_isWind H hG.w) mtX12_isWind wiX12_isWind weX12_isWind wlX12_74 (q := 6) dX12_votesIn_3 rfl rfl rfl rfl rfl rfl rfl (fun r S9 M9 h8 hP => ?_) (fun k S9 M9 hP => (z_no hP.1 rfl).elim)
  obtain ⟨rfl, rfl, h9⟩ := hP
  subst M9
  rw [if_neg hw]
  refine zr_if_ne (q := 13) (q2 := 9) dX12_votesIn_6 (by decide) rfl (fun h6 => ?_) (fun h6 => ?_)
  · exact absurd rfl h6
  · refine zr_iconst (q := 10) dX12_votesIn_9 rfl (z_in_of rfl) ?_
    refine zr_goto (q := 40) dX12_votesIn_10 (by decide) ?_
    refine zf_callV1 (k517) (s_X12_fails) mtX12_fails wiX12_fails weX12_fails wlX12_77 (q := 43) dX12_votesIn_40 rfl rfl rfl rfl rfl rfl rfl (fun r S9 M9 h8 hP => ?_) (fun k S9 M9 hP => (z_no hP.1 rfl).elim)
    obtain ⟨rfl, rfl, h9⟩ := hP
    subst M9
    refine zr_if_eq (q := 48) (q2 := 46) dX12_votesIn_43 (by decide) rfl (fun h43 => ?_) (fun h43 => ?_)
    · exact absurd h43 (by decide)
    · refine zr_iconst (q := 47) dX12_votesIn_46 rfl (z_in_of rfl) ?_
      refine zr_ireturn dX12_votesIn_47 rfl (z_fit_i _) ?_
      exact ⟨rfl, rfl, fun z a _ _ _ _ => z_up_ne a, fun j a _ _ _ => z_up_sl a, z_up_eq⟩
theorem s_X12_votesIn_y (H : zHm M) (hG : zWF (M 518)) {i : Int} (hi : ¬ (0 ≤ i ∧ i < zRn (M 518))) {w : Int} (hw : 0 ≤ w ∧ w < M 518 0) : z_Call mX12_votesIn zF [(1, 517), (0, i), (0, w)] M (zcA (0, 0) 2 M) := by
  have hr := zRn_le hG
  refine z_enter (k := 0) rfl rfl rfl ?_
  refine zp_al0 (q := 1) dX12_votesIn_0 rfl ?_
  refine zp_al0 (q := 2) dX12_votesIn_1 rfl ?_
  refine zp_il2 (q := 3) dX12_votesIn_2 rfl ?_
  refine zf_callV1 (k517) (s_X12_isWind H hG.w) mtX12_isWind wiX12_isWind weX12_isWind wlX12_74 (q := 6) dX12_votesIn_3 rfl rfl rfl rfl rfl rfl rfl (fun r S9 M9 h8 hP => ?_) (fun k S9 M9 hP => (z_no hP.1 rfl).elim)
  obtain ⟨rfl, rfl, h9⟩ := hP
  subst M9
  rw [if_pos hw]
  refine zr_if_ne (q := 13) (q2 := 9) dX12_votesIn_6 (by decide) rfl (fun h6 => ?_) (fun h6 => ?_)
  · refine zp_al0 (q := 14) dX12_votesIn_13 rfl ?_
    refine zp_il1 (q := 15) dX12_votesIn_14 rfl ?_
    refine zf_callV1 (k517) (s_X12_isRound H hG) mtX12_isRound wiX12_isRound weX12_isRound wlX12_136 (q := 18) dX12_votesIn_15 rfl rfl rfl rfl rfl rfl rfl (fun r S9 M9 h8 hP => ?_) (fun k S9 M9 hP => (z_no hP.1 rfl).elim)
    obtain ⟨rfl, rfl, hT⟩ := hP
    rw [if_neg hi]
    have HT := hT.h H
    have eT := hT.g
    refine zr_if_eq (q := 35) (q2 := 21) dX12_votesIn_18 (by decide) rfl (fun h18 => ?_) (fun h18 => ?_)
    · refine zr_iconst (q := 36) dX12_votesIn_35 rfl (z_in_of rfl) ?_
      refine zr_goto (q := 40) dX12_votesIn_36 (by decide) ?_
      refine zf_callV1 (k517) (s_X12_fails) mtX12_fails wiX12_fails weX12_fails wlX12_77 (q := 43) dX12_votesIn_40 rfl rfl rfl rfl rfl rfl rfl (fun r S9 M9 h8 hP => ?_) (fun k S9 M9 hP => (z_no hP.1 rfl).elim)
      obtain ⟨rfl, rfl, h9⟩ := hP
      subst M9
      refine zr_if_eq (q := 48) (q2 := 46) dX12_votesIn_43 (by decide) rfl (fun h43 => ?_) (fun h43 => ?_)
      · exact absurd h43 (by decide)
      · refine zr_iconst (q := 47) dX12_votesIn_46 rfl (z_in_of rfl) ?_
        refine zr_ireturn dX12_votesIn_47 rfl (z_fit_i _) ?_
        exact ⟨rfl, rfl, hT.c⟩
    · exact absurd rfl h18
  · exact absurd (by decide) h6
theorem s_X12_votesIn_z (H : zHm M) (hG : zWF (M 518)) {i : Int} (hi : 0 ≤ i ∧ i < zRn (M 518)) {w : Int} (hw : 0 ≤ w ∧ w < M 518 0) (hv : zVr (M 518) i w = -1) : z_Call mX12_votesIn zF [(1, 517), (0, i), (0, w)] M (zcA (0, 0) 2 M) := by
  have hr := zRn_le hG
  have hg := hG.w
  refine z_enter (k := 0) rfl rfl rfl ?_
  refine zp_al0 (q := 1) dX12_votesIn_0 rfl ?_
  refine zp_al0 (q := 2) dX12_votesIn_1 rfl ?_
  refine zp_il2 (q := 3) dX12_votesIn_2 rfl ?_
  refine zf_callV1 (k517) (s_X12_isWind H hG.w) mtX12_isWind wiX12_isWind weX12_isWind wlX12_74 (q := 6) dX12_votesIn_3 rfl rfl rfl rfl rfl rfl rfl (fun r S9 M9 h8 hP => ?_) (fun k S9 M9 hP => (z_no hP.1 rfl).elim)
  obtain ⟨rfl, rfl, h9⟩ := hP
  subst M9
  rw [if_pos hw]
  refine zr_if_ne (q := 13) (q2 := 9) dX12_votesIn_6 (by decide) rfl (fun h6 => ?_) (fun h6 => ?_)
  · refine zp_al0 (q := 14) dX12_votesIn_13 rfl ?_
    refine zp_il1 (q := 15) dX12_votesIn_14 rfl ?_
    refine zf_callV1 (k517) (s_X12_isRound H hG) mtX12_isRound wiX12_isRound weX12_isRound wlX12_136 (q := 18) dX12_votesIn_15 rfl rfl rfl rfl rfl rfl rfl (fun r S9 M9 h8 hP => ?_) (fun k S9 M9 hP => (z_no hP.1 rfl).elim)
    obtain ⟨rfl, rfl, hT⟩ := hP
    rw [if_pos hi]
    have HT := hT.h H
    have eT := hT.g
    refine zr_if_eq (q := 35) (q2 := 21) dX12_votesIn_18 (by decide) rfl (fun h18 => ?_) (fun h18 => ?_)
    · exact absurd h18 (by decide)
    · refine zp_al0 (q := 22) dX12_votesIn_21 rfl ?_
      refine zf_getG (v := 524) 14 (k517) (HT.2.2.2.2.2.2.1) rfl fdX12_36 (q := 25) dX12_votesIn_22 rfl rfl ?_
      refine zr_bipush (q := 27) dX12_votesIn_25 rfl (z_in_of rfl) (by decide +kernel) ?_
      refine zp_il1 (q := 28) dX12_votesIn_27 rfl ?_
      refine zr_imul (q := 29) dX12_votesIn_28 rfl (fun hA hB => by unfold z_in at hA hB ⊢; omega) ?_
      refine zp_il2 (q := 30) dX12_votesIn_29 rfl ?_
      refine zr_iadd (q := 31) dX12_votesIn_30 rfl (fun hA hB => by unfold z_in at hA hB ⊢; omega) ?_
      refine zf_iald (v := -1) (by first | assumption | exact k518 | exact k519 | exact k520 | exact k521 | exact k522 | exact k523 | exact k524 | exact k525 | exact k526 | exact k527 | exact k528 | exact k510 | exact k512 | exact k515 | exact k516 | exact k507 | exact k509 | exact k135 | exact k489 | exact k529 | exact k530) (((hT.2.2.2.2.2 i hi.1 hi.2).1 w hw.1 (by omega)).trans hv) (q := 32) dX12_votesIn_31 rfl (by omega) (by omega) ?_
      refine zr_if_ge (q := 39) (q2 := 35) dX12_votesIn_32 (by decide) rfl (fun h32 => ?_) (fun h32 => ?_)
      · exact absurd h32 (by decide)
      · refine zr_iconst (q := 36) dX12_votesIn_35 rfl (z_in_of rfl) ?_
        refine zr_goto (q := 40) dX12_votesIn_36 (by decide) ?_
        refine zf_callV1 (k517) (s_X12_fails) mtX12_fails wiX12_fails weX12_fails wlX12_77 (q := 43) dX12_votesIn_40 rfl rfl rfl rfl rfl rfl rfl (fun r S9 M9 h8 hP => ?_) (fun k S9 M9 hP => (z_no hP.1 rfl).elim)
        obtain ⟨rfl, rfl, h9⟩ := hP
        subst M9
        refine zr_if_eq (q := 48) (q2 := 46) dX12_votesIn_43 (by decide) rfl (fun h43 => ?_) (fun h43 => ?_)
        · exact absurd h43 (by decide)
        · refine zr_iconst (q := 47) dX12_votesIn_46 rfl (z_in_of rfl) ?_
          refine zr_ireturn dX12_votesIn_47 rfl (z_fit_i _) ?_
          exact ⟨rfl, rfl, hT.c⟩
  · exact absurd (by decide) h6
theorem s_X12_exhaustedIn (H : zHm M) (hG : zWF (M 518)) {i : Int} (hi : 0 ≤ i ∧ i < zRn (M 518)) : z_Call mX12_exhaustedIn zF [(1, 517), (0, i)] M (zcA (0, zXk (M 518) (zA (M 518) i) (M 518 1)) 0 M) := by
  have hr := zRn_le hG
  refine z_enter (k := 0) rfl rfl rfl ?_
  refine zp_al0 (q := 1) dX12_exhaustedIn_0 rfl ?_
  refine zp_al0 (q := 2) dX12_exhaustedIn_1 rfl ?_
  refine zp_il1 (q := 3) dX12_exhaustedIn_2 rfl ?_
  refine zf_callV1 (k517) (s_X12_isRound H hG) mtX12_isRound wiX12_isRound weX12_isRound wlX12_136 (q := 6) dX12_exhaustedIn_3 rfl rfl rfl rfl rfl rfl rfl (fun r S9 M9 h8 hP => ?_) (fun k S9 M9 hP => (z_no hP.1 rfl).elim)
  obtain ⟨rfl, rfl, hT⟩ := hP
  rw [if_pos hi]
  have HT := hT.h H
  have eT := hT.g
  refine zr_if_eq (q := 13) (q2 := 9) dX12_exhaustedIn_6 (by decide) rfl (fun h6 => ?_) (fun h6 => ?_)
  · exact absurd h6 (by decide)
  · refine zr_iconst (q := 10) dX12_exhaustedIn_9 rfl (z_in_of rfl) ?_
    refine zr_goto (q := 14) dX12_exhaustedIn_10 (by decide) ?_
    refine zf_callV1 (k517) (s_X12_fails) mtX12_fails wiX12_fails weX12_fails wlX12_77 (q := 17) dX12_exhaustedIn_14 rfl rfl rfl rfl rfl rfl rfl (fun r S9 M9 h8 hP => ?_) (fun k S9 M9 hP => (z_no hP.1 rfl).elim)
    obtain ⟨rfl, rfl, h9⟩ := hP
    subst M9
    refine zr_if_eq (q := 24) (q2 := 20) dX12_exhaustedIn_17 (by decide) rfl (fun h17 => ?_) (fun h17 => ?_)
    · refine zp_al0 (q := 25) dX12_exhaustedIn_24 rfl ?_
      refine zf_getG (v := 525) 15 (k517) (HT.2.2.2.2.2.2.2.1) rfl fdX12_39 (q := 28) dX12_exhaustedIn_25 rfl rfl ?_
      refine zp_il1 (q := 29) dX12_exhaustedIn_28 rfl ?_
      refine zf_iald (v := zXk (M 518) (zA (M 518) i) (M 518 1)) (by first | assumption | exact k518 | exact k519 | exact k520 | exact k521 | exact k522 | exact k523 | exact k524 | exact k525 | exact k526 | exact k527 | exact k528 | exact k510 | exact k512 | exact k515 | exact k516 | exact k507 | exact k509 | exact k135 | exact k489 | exact k529 | exact k530) (by rw [z_up_ne (by decide)]; exact (hT.2.2.2.2.2 i hi.1 hi.2).2.1) (q := 30) dX12_exhaustedIn_29 rfl (by omega) (by omega) ?_
      refine zr_ireturn dX12_exhaustedIn_30 rfl (z_fit_i _) ?_
      exact ⟨rfl, rfl, hT.c⟩
    · exact absurd h17 (by decide)
theorem s_X12_exhaustedIn_x (H : zHm M) (hG : zWF (M 518)) {i : Int} (hi : ¬ (0 ≤ i ∧ i < zRn (M 518))) : z_Call mX12_exhaustedIn zF [(1, 517), (0, i)] M (zcA (0, 0) 1 M) := by
  refine z_enter (k := 0) rfl rfl rfl ?_
  refine zp_al0 (q := 1) dX12_exhaustedIn_0 rfl ?_
  refine zp_al0 (q := 2) dX12_exhaustedIn_1 rfl ?_
  refine zp_il1 (q := 3) dX12_exhaustedIn_2 rfl ?_
  refine zf_callV1 (k517) (s_X12_isRound H hG) mtX12_isRound wiX12_isRound weX12_isRound wlX12_136 (q := 6) dX12_exhaustedIn_3 rfl rfl rfl rfl rfl rfl rfl (fun r S9 M9 h8 hP => ?_) (fun k S9 M9 hP => (z_no hP.1 rfl).elim)
  obtain ⟨rfl, rfl, hT⟩ := hP
  rw [if_neg hi]
  have HT := hT.h H
  have eT := hT.g
  refine zr_if_eq (q := 13) (q2 := 9) dX12_exhaustedIn_6 (by decide) rfl (fun h6 => ?_) (fun h6 => ?_)
  · refine zr_iconst (q := 14) dX12_exhaustedIn_13 rfl (z_in_of rfl) ?_
    refine zf_callV1 (k517) (s_X12_fails) mtX12_fails wiX12_fails weX12_fails wlX12_77 (q := 17) dX12_exhaustedIn_14 rfl rfl rfl rfl rfl rfl rfl (fun r S9 M9 h8 hP => ?_) (fun k S9 M9 hP => (z_no hP.1 rfl).elim)
    obtain ⟨rfl, rfl, h9⟩ := hP
    subst M9
    refine zr_if_eq (q := 24) (q2 := 20) dX12_exhaustedIn_17 (by decide) rfl (fun h17 => ?_) (fun h17 => ?_)
    · exact absurd h17 (by decide)
    · refine zr_iconst (q := 21) dX12_exhaustedIn_20 rfl (z_in_of rfl) ?_
      refine zr_goto (q := 30) dX12_exhaustedIn_21 (by decide) ?_
      refine zr_ireturn dX12_exhaustedIn_30 rfl (z_fit_i _) ?_
      exact ⟨rfl, rfl, hT.c⟩
  · exact absurd rfl h6
theorem s_X12_eliminatedIn (H : zHm M) (hG : zWF (M 518)) {i : Int} (hi : 0 ≤ i ∧ i < zRn (M 518)) (hl : i ≠ zRn (M 518) - 1) : z_Call mX12_eliminatedIn zF [(1, 517), (0, i)] M (zcA (0, zEl (zVr (M 518) i) (zP (M 518) i)) 0 M) := by
  have hr := zRn_le hG
  refine z_enter (k := 0) rfl rfl rfl ?_
  refine zp_al0 (q := 1) dX12_eliminatedIn_0 rfl ?_
  refine zp_al0 (q := 2) dX12_eliminatedIn_1 rfl ?_
  refine zp_il1 (q := 3) dX12_eliminatedIn_2 rfl ?_
  refine zf_callV1 (k517) (s_X12_isRound H hG) mtX12_isRound wiX12_isRound weX12_isRound wlX12_136 (q := 6) dX12_eliminatedIn_3 rfl rfl rfl rfl rfl rfl rfl (fun r S9 M9 h8 hP => ?_) (fun k S9 M9 hP => (z_no hP.1 rfl).elim)
  obtain ⟨rfl, rfl, hT⟩ := hP
  rw [if_pos hi]
  have HT := hT.h H
  have eT := hT.g
  refine zr_if_eq (q := 23) (q2 := 9) dX12_eliminatedIn_6 (by decide) rfl (fun h6 => ?_) (fun h6 => ?_)
  · exact absurd h6 (by decide)
  · refine zp_il1 (q := 10) dX12_eliminatedIn_9 rfl ?_
    refine zp_al0 (q := 11) dX12_eliminatedIn_10 rfl ?_
    refine zf_getG (v := zRn (M 518)) 18 (k517) (hT.2.2.1) rfl fdX12_110 (q := 14) dX12_eliminatedIn_11 rfl rfl ?_
    refine zr_iconst (q := 15) dX12_eliminatedIn_14 rfl (z_in_of rfl) ?_
    refine zr_isub (q := 16) dX12_eliminatedIn_15 rfl (fun hA hB => by unfold z_in at hA hB ⊢; omega) ?_
    refine zr_icmp_ge (q := 23) (q2 := 19) dX12_eliminatedIn_16 (by decide) rfl (fun h16 => ?_) (fun h16 => ?_)
    · exact absurd h16 (by omega)
    · refine zr_iconst (q := 20) dX12_eliminatedIn_19 rfl (z_in_of rfl) ?_
      refine zr_goto (q := 24) dX12_eliminatedIn_20 (by decide) ?_
      refine zf_callV1 (k517) (s_X12_fails) mtX12_fails wiX12_fails weX12_fails wlX12_77 (q := 27) dX12_eliminatedIn_24 rfl rfl rfl rfl rfl rfl rfl (fun r S9 M9 h8 hP => ?_) (fun k S9 M9 hP => (z_no hP.1 rfl).elim)
      obtain ⟨rfl, rfl, h9⟩ := hP
      subst M9
      refine zr_if_eq (q := 34) (q2 := 30) dX12_eliminatedIn_27 (by decide) rfl (fun h27 => ?_) (fun h27 => ?_)
      · refine zp_al0 (q := 35) dX12_eliminatedIn_34 rfl ?_
        refine zf_getG (v := 526) 16 (k517) (HT.2.2.2.2.2.2.2.2.1) rfl fdX12_42 (q := 38) dX12_eliminatedIn_35 rfl rfl ?_
        refine zp_il1 (q := 39) dX12_eliminatedIn_38 rfl ?_
        refine zf_iald (v := zEl (zVr (M 518) i) (zP (M 518) i)) (by first | assumption | exact k518 | exact k519 | exact k520 | exact k521 | exact k522 | exact k523 | exact k524 | exact k525 | exact k526 | exact k527 | exact k528 | exact k510 | exact k512 | exact k515 | exact k516 | exact k507 | exact k509 | exact k135 | exact k489 | exact k529 | exact k530) (by rw [z_up_ne (by decide)]; exact (hT.2.2.2.2.2 i hi.1 hi.2).2.2.1) (q := 40) dX12_eliminatedIn_39 rfl (by omega) (by omega) ?_
        refine zr_ireturn dX12_eliminatedIn_40 rfl (z_fit_i _) ?_
        exact ⟨rfl, rfl, hT.c⟩
      · exact absurd h27 (by decide)
theorem s_X12_eliminatedIn_x (H : zHm M) (hG : zWF (M 518)) {i : Int} (hi : ¬ (0 ≤ i ∧ i < zRn (M 518))) : z_Call mX12_eliminatedIn zF [(1, 517), (0, i)] M (zcA (0, 0) 1 M) := by
  refine z_enter (k := 0) rfl rfl rfl ?_
  refine zp_al0 (q := 1) dX12_eliminatedIn_0 rfl ?_
  refine zp_al0 (q := 2) dX12_eliminatedIn_1 rfl ?_
  refine zp_il1 (q := 3) dX12_eliminatedIn_2 rfl ?_
  refine zf_callV1 (k517) (s_X12_isRound H hG) mtX12_isRound wiX12_isRound weX12_isRound wlX12_136 (q := 6) dX12_eliminatedIn_3 rfl rfl rfl rfl rfl rfl rfl (fun r S9 M9 h8 hP => ?_) (fun k S9 M9 hP => (z_no hP.1 rfl).elim)
  obtain ⟨rfl, rfl, hT⟩ := hP
  rw [if_neg hi]
  have HT := hT.h H
  have eT := hT.g
  refine zr_if_eq (q := 23) (q2 := 9) dX12_eliminatedIn_6 (by decide) rfl (fun h6 => ?_) (fun h6 => ?_)
  · refine zr_iconst (q := 24) dX12_eliminatedIn_23 rfl (z_in_of rfl) ?_
    refine zf_callV1 (k517) (s_X12_fails) mtX12_fails wiX12_fails weX12_fails wlX12_77 (q := 27) dX12_eliminatedIn_24 rfl rfl rfl rfl rfl rfl rfl (fun r S9 M9 h8 hP => ?_) (fun k S9 M9 hP => (z_no hP.1 rfl).elim)
    obtain ⟨rfl, rfl, h9⟩ := hP
    subst M9
    refine zr_if_eq (q := 34) (q2 := 30) dX12_eliminatedIn_27 (by decide) rfl (fun h27 => ?_) (fun h27 => ?_)
    · exact absurd h27 (by decide)
    · refine zr_iconst (q := 31) dX12_eliminatedIn_30 rfl (z_in_of rfl) ?_
      refine zr_goto (q := 40) dX12_eliminatedIn_31 (by decide) ?_
      refine zr_ireturn dX12_eliminatedIn_40 rfl (z_fit_i _) ?_
      exact ⟨rfl, rfl, hT.c⟩
  · exact absurd rfl h6
theorem s_X12_eliminatedIn_y (H : zHm M) (hG : zWF (M 518)) {i : Int} (hi : 0 ≤ i ∧ i < zRn (M 518)) (hl : i = zRn (M 518) - 1) : z_Call mX12_eliminatedIn zF [(1, 517), (0, i)] M (zcA (0, 0) 1 M) := by
  have hr := zRn_le hG
  refine z_enter (k := 0) rfl rfl rfl ?_
  refine zp_al0 (q := 1) dX12_eliminatedIn_0 rfl ?_
  refine zp_al0 (q := 2) dX12_eliminatedIn_1 rfl ?_
  refine zp_il1 (q := 3) dX12_eliminatedIn_2 rfl ?_
  refine zf_callV1 (k517) (s_X12_isRound H hG) mtX12_isRound wiX12_isRound weX12_isRound wlX12_136 (q := 6) dX12_eliminatedIn_3 rfl rfl rfl rfl rfl rfl rfl (fun r S9 M9 h8 hP => ?_) (fun k S9 M9 hP => (z_no hP.1 rfl).elim)
  obtain ⟨rfl, rfl, hT⟩ := hP
  rw [if_pos hi]
  have HT := hT.h H
  have eT := hT.g
  refine zr_if_eq (q := 23) (q2 := 9) dX12_eliminatedIn_6 (by decide) rfl (fun h6 => ?_) (fun h6 => ?_)
  · exact absurd h6 (by decide)
  · refine zp_il1 (q := 10) dX12_eliminatedIn_9 rfl ?_
    refine zp_al0 (q := 11) dX12_eliminatedIn_10 rfl ?_
    refine zf_getG (v := zRn (M 518)) 18 (k517) (hT.2.2.1) rfl fdX12_110 (q := 14) dX12_eliminatedIn_11 rfl rfl ?_
    refine zr_iconst (q := 15) dX12_eliminatedIn_14 rfl (z_in_of rfl) ?_
    refine zr_isub (q := 16) dX12_eliminatedIn_15 rfl (fun hA hB => by unfold z_in at hA hB ⊢; omega) ?_
    refine zr_icmp_ge (q := 23) (q2 := 19) dX12_eliminatedIn_16 (by decide) rfl (fun h16 => ?_) (fun h16 => ?_)
    · refine zr_iconst (q := 24) dX12_eliminatedIn_23 rfl (z_in_of rfl) ?_
      refine zf_callV1 (k517) (s_X12_fails) mtX12_fails wiX12_fails weX12_fails wlX12_77 (q := 27) dX12_eliminatedIn_24 rfl rfl rfl rfl rfl rfl rfl (fun r S9 M9 h8 hP => ?_) (fun k S9 M9 hP => (z_no hP.1 rfl).elim)
      obtain ⟨rfl, rfl, h9⟩ := hP
      subst M9
      refine zr_if_eq (q := 34) (q2 := 30) dX12_eliminatedIn_27 (by decide) rfl (fun h27 => ?_) (fun h27 => ?_)
      · exact absurd h27 (by decide)
      · refine zr_iconst (q := 31) dX12_eliminatedIn_30 rfl (z_in_of rfl) ?_
        refine zr_goto (q := 40) dX12_eliminatedIn_31 (by decide) ?_
        refine zr_ireturn dX12_eliminatedIn_40 rfl (z_fit_i _) ?_
        exact ⟨rfl, rfl, hT.c⟩
    · exact absurd h16 (by omega)
theorem zTi_01 (V : Int → Int) : zTi V = 0 ∨ zTi V = 1 := by
  unfold zTi
  split
  · exact Or.inr rfl
  · exact Or.inl rfl
theorem s_X12_isTieIn (H : zHm M) (hG : zWF (M 518)) {i : Int} (hi : 0 ≤ i ∧ i < zRn (M 518)) : z_Call mX12_isTieIn zF [(1, 517), (0, i)] M (zcA (0, zTi (zVr (M 518) i)) 0 M) := by
  have hr := zRn_le hG
  refine z_enter (k := 0) rfl rfl rfl ?_
  refine zp_al0 (q := 1) dX12_isTieIn_0 rfl ?_
  refine zp_al0 (q := 2) dX12_isTieIn_1 rfl ?_
  refine zp_il1 (q := 3) dX12_isTieIn_2 rfl ?_
  refine zf_callV1 (k517) (s_X12_isRound H hG) mtX12_isRound wiX12_isRound weX12_isRound wlX12_136 (q := 6) dX12_isTieIn_3 rfl rfl rfl rfl rfl rfl rfl (fun r S9 M9 h8 hP => ?_) (fun k S9 M9 hP => (z_no hP.1 rfl).elim)
  obtain ⟨rfl, rfl, hT⟩ := hP
  rw [if_pos hi]
  have HT := hT.h H
  have eT := hT.g
  refine zr_if_eq (q := 13) (q2 := 9) dX12_isTieIn_6 (by decide) rfl (fun h6 => ?_) (fun h6 => ?_)
  · exact absurd h6 (by decide)
  · refine zr_iconst (q := 10) dX12_isTieIn_9 rfl (z_in_of rfl) ?_
    refine zr_goto (q := 14) dX12_isTieIn_10 (by decide) ?_
    refine zf_callV1 (k517) (s_X12_fails) mtX12_fails wiX12_fails weX12_fails wlX12_77 (q := 17) dX12_isTieIn_14 rfl rfl rfl rfl rfl rfl rfl (fun r S9 M9 h8 hP => ?_) (fun k S9 M9 hP => (z_no hP.1 rfl).elim)
    obtain ⟨rfl, rfl, h9⟩ := hP
    subst M9
    refine zr_if_ne (q := 33) (q2 := 20) dX12_isTieIn_17 (by decide) rfl (fun h17 => ?_) (fun h17 => ?_)
    · exact absurd h17 (by decide)
    · refine zp_al0 (q := 21) dX12_isTieIn_20 rfl ?_
      refine zf_getG (v := 527) 17 (k517) (HT.2.2.2.2.2.2.2.2.2.1) rfl fdX12_45 (q := 24) dX12_isTieIn_21 rfl rfl ?_
      refine zp_il1 (q := 25) dX12_isTieIn_24 rfl ?_
      refine zf_zald (v := zTi (zVr (M 518) i)) (by first | assumption | exact k518 | exact k519 | exact k520 | exact k521 | exact k522 | exact k523 | exact k524 | exact k525 | exact k526 | exact k527 | exact k528 | exact k510 | exact k512 | exact k515 | exact k516 | exact k507 | exact k509 | exact k135 | exact k489 | exact k529 | exact k530) (by rw [z_up_ne (by decide)]; exact (hT.2.2.2.2.2 i hi.1 hi.2).2.2.2) (q := 26) dX12_isTieIn_25 rfl (by omega) (by omega) ?_
      refine zr_if_eq (q := 33) (q2 := 29) dX12_isTieIn_26 (by decide) rfl (fun h26 => ?_) (fun h26 => ?_)
      · refine zr_iconst (q := 34) dX12_isTieIn_33 rfl (z_in_of rfl) ?_
        refine zr_ireturn dX12_isTieIn_34 rfl (z_fit_z (by decide)) ?_
        have t := zTi_01 (zVr (M 518) i)
        refine ⟨?_, rfl, hT.c⟩
        congr 1
        omega
      · refine zr_iconst (q := 30) dX12_isTieIn_29 rfl (z_in_of rfl) ?_
        refine zr_goto (q := 34) dX12_isTieIn_30 (by decide) ?_
        refine zr_ireturn dX12_isTieIn_34 rfl (z_fit_z (by decide)) ?_
        have t := zTi_01 (zVr (M 518) i)
        refine ⟨?_, rfl, hT.c⟩
        congr 1
        omega
theorem s_X12_isTieIn_x (H : zHm M) (hG : zWF (M 518)) {i : Int} (hi : ¬ (0 ≤ i ∧ i < zRn (M 518))) : z_Call mX12_isTieIn zF [(1, 517), (0, i)] M (zcA (0, 0) 1 M) := by
  refine z_enter (k := 0) rfl rfl rfl ?_
  refine zp_al0 (q := 1) dX12_isTieIn_0 rfl ?_
  refine zp_al0 (q := 2) dX12_isTieIn_1 rfl ?_
  refine zp_il1 (q := 3) dX12_isTieIn_2 rfl ?_
  refine zf_callV1 (k517) (s_X12_isRound H hG) mtX12_isRound wiX12_isRound weX12_isRound wlX12_136 (q := 6) dX12_isTieIn_3 rfl rfl rfl rfl rfl rfl rfl (fun r S9 M9 h8 hP => ?_) (fun k S9 M9 hP => (z_no hP.1 rfl).elim)
  obtain ⟨rfl, rfl, hT⟩ := hP
  rw [if_neg hi]
  have HT := hT.h H
  have eT := hT.g
  refine zr_if_eq (q := 13) (q2 := 9) dX12_isTieIn_6 (by decide) rfl (fun h6 => ?_) (fun h6 => ?_)
  · refine zr_iconst (q := 14) dX12_isTieIn_13 rfl (z_in_of rfl) ?_
    refine zf_callV1 (k517) (s_X12_fails) mtX12_fails wiX12_fails weX12_fails wlX12_77 (q := 17) dX12_isTieIn_14 rfl rfl rfl rfl rfl rfl rfl (fun r S9 M9 h8 hP => ?_) (fun k S9 M9 hP => (z_no hP.1 rfl).elim)
    obtain ⟨rfl, rfl, h9⟩ := hP
    subst M9
    refine zr_if_ne (q := 33) (q2 := 20) dX12_isTieIn_17 (by decide) rfl (fun h17 => ?_) (fun h17 => ?_)
    · refine zr_iconst (q := 34) dX12_isTieIn_33 rfl (z_in_of rfl) ?_
      refine zr_ireturn dX12_isTieIn_34 rfl (z_fit_z (by decide)) ?_
      exact ⟨rfl, rfl, hT.c⟩
    · exact absurd h17 (by decide)
  · exact absurd rfl h6
/-- the round in which w falls -/
def zRe (G : Int → Int) (w : Int) : Int := zFs (fun i => decide (zEl (zVr G i) (zP G i) = w)) (zRn G)
theorem s_X12_roundOfElimination_l (H : zHm M) (hG : zWF (M 518)) {w : Int} {M1 : zM} (hT : zMt M M1 (M 518)) {bc bs : Nat} {Q : zV → zS → zM → Prop} (hQ : Q (0, if zRe (M 518) w = -1 then 0 else zRe (M 518) w) zF (z_up M1 517 7 (if zRe (M 518) w = -1 then 2 else 0))) : ∀ (m : Nat) (k : Int), 0 ≤ k → k ≤ zRn (M 518) → zRn (M 518) - k < m → (∀ j, 0 ≤ j → j < k → ¬ zEl (zVr (M 518) j) (zP (M 518) j) = w) →
    z_Ex mX12_roundOfElimination zF 16 [(1, 517), (0, w), (0, k)] [] M1 bc bs Q := by
  have HT := hT.h H
  have hr := zRn_le hG
  intro m
  induction m with
  | zero => intro k h0 h1 h2; omega
  | succ m ih =>
    intro k h0 h1 h2 hx
    have hyes : k < zRn (M 518) → zEl (zVr (M 518) k) (zP (M 518) k) = w → zRe (M 518) w = k := fun a b => zFs_yes h0 a (decide_eq_true b) (fun j j0 j1 => decide_eq_false (hx j j0 j1))
    have hno : k = zRn (M 518) → zRe (M 518) w = -1 := fun a => zFs_no (fun j j0 j1 => decide_eq_false (hx j j0 (by omega)))
    refine zp_il2 (q := 17) dX12_roundOfElimination_16 rfl ?_
    refine zp_al0 (q := 18) dX12_roundOfElimination_17 rfl ?_
    refine zf_getG (v := zRn (M 518)) 18 (k517) (hT.2.2.1) rfl fdX12_110 (q := 21) dX12_roundOfElimination_18 rfl rfl ?_
    refine zr_icmp_ge (q := 40) (q2 := 24) dX12_roundOfElimination_21 (by decide) rfl (fun h21 => ?_) (fun h21 => ?_)
    · refine zp_al0 (q := 41) dX12_roundOfElimination_40 rfl ?_
      refine zp_il2 (q := 42) dX12_roundOfElimination_41 rfl ?_
      refine zp_al0 (q := 43) dX12_roundOfElimination_42 rfl ?_
      refine zf_getG (v := zRn (M 518)) 18 (k517) (hT.2.2.1) rfl fdX12_110 (q := 46) dX12_roundOfElimination_43 rfl rfl ?_
      refine zr_icmp_ne (q := 53) (q2 := 49) dX12_roundOfElimination_46 (by decide) rfl (fun h46 => ?_) (fun h46 => ?_)
      · first
        | (exfalso; omega)
        | (refine zr_iconst (q := 54) dX12_roundOfElimination_53 rfl (z_in_of rfl) ?_
           refine zf_callV1 (k517) (s_X12_fails) mtX12_fails wiX12_fails weX12_fails wlX12_77 (q := 57) dX12_roundOfElimination_54 rfl rfl rfl rfl rfl rfl rfl (fun r S9 M9 h8 hP => ?_) (fun k S9 M9 hP => (z_no hP.1 rfl).elim)
           obtain ⟨rfl, rfl, h9⟩ := hP
           subst M9
           refine zr_if_eq (q := 64) (q2 := 60) dX12_roundOfElimination_57 (by decide) rfl (fun h57 => ?_) (fun h57 => ?_)
           · refine zp_il2 (q := 65) dX12_roundOfElimination_64 rfl ?_
             refine zr_ireturn dX12_roundOfElimination_65 rfl (z_fit_i _) ?_
             first
             | (have e := hno (by omega)
                rw [if_pos e, if_pos e] at hQ
                exact hQ)
             | (have e := hyes (by omega) (by omega)
                rw [e, if_neg (by omega), if_neg (by omega)] at hQ
                exact hQ)
           · exact absurd h57 (by decide))
      · first
        | (exfalso; omega)
        | (refine zr_iconst (q := 50) dX12_roundOfElimination_49 rfl (z_in_of rfl) ?_
           refine zr_goto (q := 54) dX12_roundOfElimination_50 (by decide) ?_
           refine zf_callV1 (k517) (s_X12_fails) mtX12_fails wiX12_fails weX12_fails wlX12_77 (q := 57) dX12_roundOfElimination_54 rfl rfl rfl rfl rfl rfl rfl (fun r S9 M9 h8 hP => ?_) (fun k S9 M9 hP => (z_no hP.1 rfl).elim)
           obtain ⟨rfl, rfl, h9⟩ := hP
           subst M9
           refine zr_if_eq (q := 64) (q2 := 60) dX12_roundOfElimination_57 (by decide) rfl (fun h57 => ?_) (fun h57 => ?_)
           · exact absurd h57 (by decide)
           · refine zr_iconst (q := 61) dX12_roundOfElimination_60 rfl (z_in_of rfl) ?_
             refine zr_goto (q := 65) dX12_roundOfElimination_61 (by decide) ?_
             refine zr_ireturn dX12_roundOfElimination_65 rfl (z_fit_i _) ?_
             first
             | (have e := hno (by omega)
                rw [if_pos e, if_pos e] at hQ
                exact hQ)
             | (have e := hyes (by omega) (by omega)
                rw [e, if_neg (by omega), if_neg (by omega)] at hQ
                exact hQ))
    · have hk := hT.2.2.2.2.2 k h0 (by omega)
      refine zp_al0 (q := 25) dX12_roundOfElimination_24 rfl ?_
      refine zf_getG (v := 526) 16 (k517) (HT.2.2.2.2.2.2.2.2.1) rfl fdX12_42 (q := 28) dX12_roundOfElimination_25 rfl rfl ?_
      refine zp_il2 (q := 29) dX12_roundOfElimination_28 rfl ?_
      refine zf_iald (v := zEl (zVr (M 518) k) (zP (M 518) k)) (by first | assumption | exact k518 | exact k519 | exact k520 | exact k521 | exact k522 | exact k523 | exact k524 | exact k525 | exact k526 | exact k527 | exact k528 | exact k510 | exact k512 | exact k515 | exact k516 | exact k507 | exact k509 | exact k135 | exact k489 | exact k529 | exact k530) (hk.2.2.1) (q := 30) dX12_roundOfElimination_29 rfl (by omega) (by omega) ?_
      refine zp_il1 (q := 31) dX12_roundOfElimination_30 rfl ?_
      refine zr_icmp_eq (q := 40) (q2 := 34) dX12_roundOfElimination_31 (by decide) rfl (fun h31 => ?_) (fun h31 => ?_)
      · refine zp_al0 (q := 41) dX12_roundOfElimination_40 rfl ?_
        refine zp_il2 (q := 42) dX12_roundOfElimination_41 rfl ?_
        refine zp_al0 (q := 43) dX12_roundOfElimination_42 rfl ?_
        refine zf_getG (v := zRn (M 518)) 18 (k517) (hT.2.2.1) rfl fdX12_110 (q := 46) dX12_roundOfElimination_43 rfl rfl ?_
        refine zr_icmp_ne (q := 53) (q2 := 49) dX12_roundOfElimination_46 (by decide) rfl (fun h46 => ?_) (fun h46 => ?_)
        · first
          | (exfalso; omega)
          | (refine zr_iconst (q := 54) dX12_roundOfElimination_53 rfl (z_in_of rfl) ?_
             refine zf_callV1 (k517) (s_X12_fails) mtX12_fails wiX12_fails weX12_fails wlX12_77 (q := 57) dX12_roundOfElimination_54 rfl rfl rfl rfl rfl rfl rfl (fun r S9 M9 h8 hP => ?_) (fun k S9 M9 hP => (z_no hP.1 rfl).elim)
             obtain ⟨rfl, rfl, h9⟩ := hP
             subst M9
             refine zr_if_eq (q := 64) (q2 := 60) dX12_roundOfElimination_57 (by decide) rfl (fun h57 => ?_) (fun h57 => ?_)
             · refine zp_il2 (q := 65) dX12_roundOfElimination_64 rfl ?_
               refine zr_ireturn dX12_roundOfElimination_65 rfl (z_fit_i _) ?_
               first
               | (have e := hno (by omega)
                  rw [if_pos e, if_pos e] at hQ
                  exact hQ)
               | (have e := hyes (by omega) (by omega)
                  rw [e, if_neg (by omega), if_neg (by omega)] at hQ
                  exact hQ)
             · exact absurd h57 (by decide))
        · first
          | (exfalso; omega)
          | (refine zr_iconst (q := 50) dX12_roundOfElimination_49 rfl (z_in_of rfl) ?_
             refine zr_goto (q := 54) dX12_roundOfElimination_50 (by decide) ?_
             refine zf_callV1 (k517) (s_X12_fails) mtX12_fails wiX12_fails weX12_fails wlX12_77 (q := 57) dX12_roundOfElimination_54 rfl rfl rfl rfl rfl rfl rfl (fun r S9 M9 h8 hP => ?_) (fun k S9 M9 hP => (z_no hP.1 rfl).elim)
             obtain ⟨rfl, rfl, h9⟩ := hP
             subst M9
             refine zr_if_eq (q := 64) (q2 := 60) dX12_roundOfElimination_57 (by decide) rfl (fun h57 => ?_) (fun h57 => ?_)
             · exact absurd h57 (by decide)
             · refine zr_iconst (q := 61) dX12_roundOfElimination_60 rfl (z_in_of rfl) ?_
               refine zr_goto (q := 65) dX12_roundOfElimination_61 (by decide) ?_
               refine zr_ireturn dX12_roundOfElimination_65 rfl (z_fit_i _) ?_
               first
               | (have e := hno (by omega)
                  rw [if_pos e, if_pos e] at hQ
                  exact hQ)
               | (have e := hyes (by omega) (by omega)
                  rw [e, if_neg (by omega), if_neg (by omega)] at hQ
                  exact hQ))
      · refine zp_inc2 (q := 37) dX12_roundOfElimination_34 rfl rfl rfl (fun hA => by unfold z_in at hA ⊢; omega) ?_
        refine zr_goto (q := 16) dX12_roundOfElimination_37 (by decide) ?_
        exact ih (k + 1) (by omega) (by omega) (by omega) (fun j a1 a2 => by
          by_cases e : j = k
          · rw [e]; assumption
          · exact hx j a1 (by omega))
theorem s_X12_roundOfElimination (H : zHm M) (hG : zWF (M 518)) {w : Int} (hw : 0 ≤ w ∧ w < M 518 0) : z_Call mX12_roundOfElimination zF [(1, 517), (0, w)] M (zcA (0, if zRe (M 518) w = -1 then 0 else zRe (M 518) w) (if zRe (M 518) w = -1 then 2 else 0) M) := by
  have hr := zRn_le hG
  refine z_enter (k := 1) rfl rfl rfl ?_
  refine zp_al0 (q := 1) dX12_roundOfElimination_0 rfl ?_
  refine zp_il1 (q := 2) dX12_roundOfElimination_1 rfl ?_
  refine zf_callV1 (k517) (s_X12_isNone H hG) mtX12_isNone wiX12_isNone weX12_isNone wlX12_88 (q := 5) dX12_roundOfElimination_2 rfl rfl rfl rfl rfl rfl rfl (fun r S9 M9 h8 hP => ?_) (fun k S9 M9 hP => (z_no hP.1 rfl).elim)
  obtain ⟨rfl, rfl, h9⟩ := hP
  subst M9
  rw [if_pos hw]
  refine zr_if_eq (q := 10) (q2 := 8) dX12_roundOfElimination_5 (by decide) rfl (fun h5 => ?_) (fun h5 => ?_)
  · refine zp_al0 (q := 11) dX12_roundOfElimination_10 rfl ?_
    refine zf_callV0 (k517) (s_X12_counts H.c hG.c) mtX12_counts wiX12_counts weX12_counts wlX12_130 (q := 14) dX12_roundOfElimination_11 rfl rfl rfl rfl rfl rfl rfl (fun r S9 M9 h8 hP => ?_) (fun k S9 M9 hP => (z_no hP.1 rfl).elim)
    obtain ⟨rfl, rfl, hT⟩ := hP
    refine zr_iconst (q := 15) dX12_roundOfElimination_14 rfl (z_in_of rfl) ?_
    refine zp_is2 (q := 16) dX12_roundOfElimination_15 rfl rfl rfl ?_
    exact s_X12_roundOfElimination_l (M := z_up M 517 7 0) H.c hG.c (w := w) hT (bc := mX12_roundOfElimination.2.2.2.2.2.1) (bs := mX12_roundOfElimination.2.2.2.2.2.2.1) ⟨rfl, rfl, fun z a b c d e => (z_up_ne a).trans ((hT.1 z a b c d e).trans (z_up_ne a)), fun j a b c d => (z_up_sl a).trans ((hT.2.1 j b c d).trans (z_up_sl a)), z_up_eq⟩ 9 0 (by omega) hr.1 (by have h8 := hr.2; show zRn (M 518) - 0 < _; omega) (fun j a b => by omega)
  · exact absurd rfl h5
theorem s_X12_roundOfElimination_x (H : zHm M) (hG : zWF (M 518)) {w : Int} (hw : ¬ (0 ≤ w ∧ w < M 518 0)) : z_Call mX12_roundOfElimination zF [(1, 517), (0, w)] M (zcA (0, 0) 1 M) := by
  refine z_enter (k := 1) rfl rfl rfl ?_
  refine zp_al0 (q := 1) dX12_roundOfElimination_0 rfl ?_
  refine zp_il1 (q := 2) dX12_roundOfElimination_1 rfl ?_
  refine zf_callV1 (k517) (s_X12_isNone H hG) mtX12_isNone wiX12_isNone weX12_isNone wlX12_88 (q := 5) dX12_roundOfElimination_2 rfl rfl rfl rfl rfl rfl rfl (fun r S9 M9 h8 hP => ?_) (fun k S9 M9 hP => (z_no hP.1 rfl).elim)
  obtain ⟨rfl, rfl, h9⟩ := hP
  subst M9
  rw [if_neg hw]
  refine zr_if_eq (q := 10) (q2 := 8) dX12_roundOfElimination_5 (by decide) rfl (fun h5 => ?_) (fun h5 => ?_)
  · exact absurd h5 (by decide)
  · refine zr_iconst (q := 9) dX12_roundOfElimination_8 rfl (z_in_of rfl) ?_
    refine zr_ireturn dX12_roundOfElimination_9 rfl (z_fit_i _) ?_
    exact ⟨rfl, rfl, fun z a _ _ _ _ => z_up_ne a, fun j a _ _ _ => z_up_sl a, z_up_eq⟩
/-- the row behind a certified election -/
def gCert (G : Int → Int) : Int → Int := gSpin (gSeat G (zW G)) (zP G (zRn G))
theorem zWF.cert {G : Int → Int} (hG : zWF G) (hs : zSt G ≠ 0) : zWF (gCert G) := by
  have hst := zSt_range hG
  have hw := zW_range hG (by omega)
  have hr := zRn_le hG
  exact (hG.give hw.1 hw.2.1 hw.2.2).spin (zP_range hG hr.1).1 (zP_range hG hr.1).2
theorem s_X12_certify_x (H : zHm M) (hG : zWF (M 518)) (hs : zSt (M 518) = 0) : z_Call mX12_certify zF [(1, 517)] M (zcA (0, 0) 1 M) := by
  refine z_enter (k := 1) rfl rfl rfl ?_
  refine zp_al0 (q := 1) dX12_certify_0 rfl ?_
  refine zf_callV0 (k517) (s_X12_elected_x H hG hs) mtX12_elected wiX12_elected weX12_elected wlX12_133 (q := 4) dX12_certify_1 rfl rfl rfl rfl rfl rfl rfl (fun r S9 M9 h8 hP => ?_) (fun k S9 M9 hP => (z_no hP.1 rfl).elim)
  obtain ⟨rfl, rfl, x1⟩ := hP
  refine zp_is1 (q := 5) dX12_certify_4 rfl rfl rfl ?_
  refine zp_al0 (q := 6) dX12_certify_5 rfl ?_
  refine zf_getG (v := 1) 7 (k517) (x1.2.2) rfl fdX12_52 (q := 9) dX12_certify_6 rfl rfl ?_
  refine zr_if_le (q := 14) (q2 := 12) dX12_certify_9 (by decide) rfl (fun h9 => ?_) (fun h9 => ?_)
  · exact absurd h9 (by decide)
  · refine zr_iconst (q := 13) dX12_certify_12 rfl (z_in_of rfl) ?_
    refine zr_ireturn dX12_certify_13 rfl (z_fit_i _) ?_
    exact ⟨rfl, rfl, x1⟩
theorem s_X12_certify (H : zHm M) (hG : zWF (M 518)) (h5 : 0 ≤ M 517 5 ∧ M 517 5 ≤ 8) (hs : zSt (M 518) ≠ 0) : z_Call mX12_certify zF [(1, 517)] M (zmA (zW (M 518)) (gCert (M 518)) M) := by
  have hst := zSt_range hG
  have hw := zW_range hG (by omega)
  have h7 := hG.s7 hw.1 hw.2.1 hw.2.2
  have hg := hG.w
  have h3 := hG.s
  refine z_enter (k := 1) rfl rfl rfl ?_
  refine zp_al0 (q := 1) dX12_certify_0 rfl ?_
  refine zf_callV0 (k517) (s_X12_elected H hG hs) mtX12_elected wiX12_elected weX12_elected wlX12_133 (q := 4) dX12_certify_1 rfl rfl rfl rfl rfl rfl rfl (fun r S9 M9 h8 hP => ?_) (fun k S9 M9 hP => (z_no hP.1 rfl).elim)
  obtain ⟨rfl, rfl, ⟨y1, y2, y3⟩, y4⟩ := hP
  have ex : ∃ M1, M1 = M9 := ⟨M9, rfl⟩
  obtain ⟨M1, e1⟩ := ex
  rw [← e1] at y1 y2 y3 y4 ⊢
  clear e1 M9
  have H1 : zHm M1 := H.of (fun j _ a b c d => y2 j a b c d)
  have g1 : M1 518 = M 518 := y1 518 (by decide) (by decide) (by decide) (by decide) (by decide)
  refine zp_is1 (q := 5) dX12_certify_4 rfl rfl rfl ?_
  refine zp_al0 (q := 6) dX12_certify_5 rfl ?_
  refine zf_getG (v := 0) 7 (k517) (y3) rfl fdX12_52 (q := 9) dX12_certify_6 rfl rfl ?_
  refine zr_if_le (q := 14) (q2 := 12) dX12_certify_9 (by decide) rfl (fun h9 => ?_) (fun h9 => ?_)
  · refine zp_al0 (q := 15) dX12_certify_14 rfl ?_
    refine zp_al0 (q := 16) dX12_certify_15 rfl ?_
    refine zf_getG (v := 518) 0 (k517) (H1.1) rfl fdX12_7 (q := 19) dX12_certify_16 rfl rfl ?_
    refine zf_callV1 (k517) (s_X12_keeps (u := 518) H1 k518 (by decide) (by decide) (by rw [y2 5 (by decide) (by decide) (by decide) (by decide)]; exact h5)) mtX12_keeps wiX12_keeps weX12_keeps wlX12_80 (q := 22) dX12_certify_19 rfl rfl rfl rfl rfl rfl rfl (fun r S9 M9 h8 hP => ?_) (fun k S9 M9 hP => (z_no hP.1 rfl).elim)
    obtain ⟨rfl, rfl, x1, x2, x3, x4⟩ := hP
    have H9 := H1.k x2
    have e8 : M9 518 = M 518 := (x1 518 (by decide) (by decide)).trans g1
    rw [g1] at x4
    refine zp_al0 (q := 23) dX12_certify_22 rfl ?_
    refine zf_getG (v := 518) 0 (k517) (H9.1) rfl fdX12_7 (q := 26) dX12_certify_23 rfl rfl ?_
    refine zr_iconst (q := 27) dX12_certify_26 rfl (z_in_of rfl) ?_
    refine zp_al0 (q := 28) dX12_certify_27 rfl ?_
    refine zf_getG (v := zP (M 518) (zRn (M 518))) 20 (k517) ((x2 20 (by decide) (by decide)).trans y4) rfl fdX12_113 (q := 31) dX12_certify_28 rfl rfl ?_
    refine zf_iast (by first | assumption | exact k518 | exact k519 | exact k520 | exact k521 | exact k522 | exact k523 | exact k524 | exact k525 | exact k526 | exact k527 | exact k528 | exact k510 | exact k512 | exact k515 | exact k516 | exact k507 | exact k509 | exact k135 | exact k489 | exact k529 | exact k530) (q := 32) dX12_certify_31 rfl (by omega) (by omega) ?_
    refine zp_al0 (q := 33) dX12_certify_32 rfl ?_
    refine zf_getG (v := 518) 0 (k517) (by rw [z_up_ne (by decide)]; exact H9.1) rfl fdX12_7 (q := 36) dX12_certify_33 rfl rfl ?_
    refine zr_iconst (q := 37) dX12_certify_36 rfl (z_in_of rfl) ?_
    refine zp_il1 (q := 38) dX12_certify_37 rfl ?_
    refine zr_iadd (q := 39) dX12_certify_38 rfl (fun hA hB => by unfold z_in at hA hB ⊢; omega) ?_
    refine zr_iconst (q := 40) dX12_certify_39 rfl (z_in_of rfl) ?_
    refine zf_iast (by first | assumption | exact k518 | exact k519 | exact k520 | exact k521 | exact k522 | exact k523 | exact k524 | exact k525 | exact k526 | exact k527 | exact k528 | exact k510 | exact k512 | exact k515 | exact k516 | exact k507 | exact k509 | exact k135 | exact k489 | exact k529 | exact k530) (q := 41) dX12_certify_40 rfl (by omega) (by omega) ?_
    refine zp_al0 (q := 42) dX12_certify_41 rfl ?_
    refine zf_getG (v := 518) 0 (k517) (by rw [z_up_ne (by decide), z_up_ne (by decide)]; exact H9.1) rfl fdX12_7 (q := 45) dX12_certify_42 rfl rfl ?_
    refine zr_bipush (q := 47) dX12_certify_45 rfl (z_in_of rfl) (by decide +kernel) ?_
    refine zp_al0 (q := 48) dX12_certify_47 rfl ?_
    refine zf_getG (v := 518) 0 (k517) (by rw [z_up_ne (by decide), z_up_ne (by decide)]; exact H9.1) rfl fdX12_7 (q := 51) dX12_certify_48 rfl rfl ?_
    refine zr_iconst (q := 52) dX12_certify_51 rfl (z_in_of rfl) ?_
    refine zf_iald (v := M 518 3) (by first | assumption | exact k518 | exact k519 | exact k520 | exact k521 | exact k522 | exact k523 | exact k524 | exact k525 | exact k526 | exact k527 | exact k528 | exact k510 | exact k512 | exact k515 | exact k516 | exact k507 | exact k509 | exact k135 | exact k489 | exact k529 | exact k530) (by rw [z_up_sl (by omega), z_up_sl (by decide), e8]) (q := 53) dX12_certify_52 rfl (by omega) (by omega) ?_
    refine zr_iadd (q := 54) dX12_certify_53 rfl (fun hA hB => by unfold z_in at hA hB ⊢; omega) ?_
    refine zp_il1 (q := 55) dX12_certify_54 rfl ?_
    refine zf_iast (by first | assumption | exact k518 | exact k519 | exact k520 | exact k521 | exact k522 | exact k523 | exact k524 | exact k525 | exact k526 | exact k527 | exact k528 | exact k510 | exact k512 | exact k515 | exact k516 | exact k507 | exact k509 | exact k135 | exact k489 | exact k529 | exact k530) (q := 56) dX12_certify_55 rfl (by omega) (by omega) ?_
    refine zp_al0 (q := 57) dX12_certify_56 rfl ?_
    refine zf_getG (v := 518) 0 (k517) (by rw [z_up_ne (by decide), z_up_ne (by decide), z_up_ne (by decide)]; exact H9.1) rfl fdX12_7 (q := 60) dX12_certify_57 rfl rfl ?_
    refine zr_iconst (q := 61) dX12_certify_60 rfl (z_in_of rfl) ?_
    refine zr_dup2 (q := 62) dX12_certify_61 rfl (Or.inl rfl) (Or.inr rfl) ?_
    refine zf_iald (v := M 518 3) (by first | assumption | exact k518 | exact k519 | exact k520 | exact k521 | exact k522 | exact k523 | exact k524 | exact k525 | exact k526 | exact k527 | exact k528 | exact k510 | exact k512 | exact k515 | exact k516 | exact k507 | exact k509 | exact k135 | exact k489 | exact k529 | exact k530) (by rw [z_up_sl (by omega), z_up_sl (by omega), z_up_sl (by decide), e8]) (q := 63) dX12_certify_62 rfl (by omega) (by omega) ?_
    refine zr_iconst (q := 64) dX12_certify_63 rfl (z_in_of rfl) ?_
    refine zr_iadd (q := 65) dX12_certify_64 rfl (fun hA hB => by unfold z_in at hA hB ⊢; omega) ?_
    refine zf_iast (by first | assumption | exact k518 | exact k519 | exact k520 | exact k521 | exact k522 | exact k523 | exact k524 | exact k525 | exact k526 | exact k527 | exact k528 | exact k510 | exact k512 | exact k515 | exact k516 | exact k507 | exact k509 | exact k135 | exact k489 | exact k529 | exact k530) (q := 66) dX12_certify_65 rfl (by omega) (by omega) ?_
    refine zp_il1 (q := 67) dX12_certify_66 rfl ?_
    refine zr_ireturn dX12_certify_67 rfl (z_fit_i _) ?_
    have f3 : ∀ z, z ≠ 518 → z_up (z_up (z_up (z_up M9 518 2 (zP (M 518) (zRn (M 518)))) 518 (4 + zW (M 518)) 2) 518 (12 + M 518 3) (zW (M 518))) 518 3 (M 518 3 + 1) z = M9 z := fun z a => by rw [z_up_ne a, z_up_ne a, z_up_ne a, z_up_ne a]
    refine ⟨rfl, rfl, ⟨fun z a b c d e f g => (f3 z b).trans ((x1 z a c).trans (y1 z a d e f g)), fun j a b c d e => (congrFun (f3 517 (by decide)) j).trans ((x2 j a b).trans (y2 j b c d e))⟩, by rw [f3 517 (by decide)]; exact x3, ?_, ?_⟩
    · have x5 := z_mK x4 f3
      unfold zKp at x5 ⊢
      rw [y2 6 (by decide) (by decide) (by decide) (by decide), y2 5 (by decide) (by decide) (by decide) (by decide), y1 519 (by decide) (by decide) (by decide) (by decide) (by decide)] at x5
      exact x5
    · funext j
      unfold z_up gCert gSpin gSeat zSet
      rw [e8]
      by_cases j3 : j = 3
      · rw [if_pos ⟨rfl, j3⟩, if_neg (by omega), if_pos j3]
      · rw [if_neg (fun c => j3 c.2)]
        by_cases j12 : j = 12 + M 518 3
        · rw [if_pos ⟨rfl, j12⟩, if_neg (by omega), if_neg j3, if_pos j12]
        · rw [if_neg (fun c => j12 c.2)]
          by_cases j4 : j = 4 + zW (M 518)
          · rw [if_pos ⟨rfl, j4⟩, if_neg (by omega), if_neg j3, if_neg j12, if_pos j4]
          · rw [if_neg (fun c => j4 c.2)]
            by_cases j2 : j = 2
            · rw [if_pos ⟨rfl, j2⟩, if_pos j2]
            · rw [if_neg (fun c => j2 c.2), if_neg j2, if_neg j3, if_neg j12, if_neg j4]
  · exact absurd (by decide) h9
end ZCA
