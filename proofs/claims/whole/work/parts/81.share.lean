/-! dep: 80 -/
/-! ===== winnerShare and meanRanks ===== -/
def zLs9 (G : Int → Int) : Int := zSm (zVr G (zRn G - 1))
def zLv (G : Int → Int) : Int := zVr G (zRn G - 1) (zW G)
theorem zTot_rg {G : Int → Int} (hG : zWF G) : 0 ≤ zTot G ∧ zTot G ≤ 1980 := by
  have hn := hG.n
  have := zU_le (f := fun b => G (20 + 7 * b)) (lo := 0) (hi := 99) hn.1 (fun k k0 k1 => by have := hG.wt k0 k1; omega)
  unfold zTot
  omega
theorem zRks_rg {G : Int → Int} (hG : zWF G) : G 1 ≤ zRks G ∧ zRks G ≤ 100 := by
  have hn := hG.n
  have := zU_le (f := fun b => G (20 + 7 * b + 1)) (lo := 1) (hi := 5) hn.1 (fun k k0 k1 => by have := hG.sz k0 k1; omega)
  unfold zRks
  omega
theorem zLs_rg {G : Int → Int} (hG : zWF G) (hs : zSt G ≠ 0) : zLs9 G + zXk G (zA G (zRn G - 1)) (G 1) = zTot G ∧ 0 ≤ zLs9 G ∧ zLs9 G ≤ 1980 ∧ 0 ≤ zLv G ∧ zLv G ≤ 1980 := by
  have hst := zSt_range hG
  obtain ⟨r1, r2, r3, r4, r5⟩ := zRn_spec hG (show 1 ≤ zSt G by omega)
  have hgw := hG.w
  have h1 := zSm_all hG (zA G (zRn G - 1)) (fun w hw => by
    have h := (zA_step hG (i := zRn G - 1) (by omega) (fun j j0 j1 => r4 j j0 j1) (by omega)).2 w hw
    omega)
  have h2 := zXk_range hG (zA G (zRn G - 1)) hG.n.1 (Int.le_refl _)
  have h3 := zTot_rg hG
  have h4 : 0 ≤ zSm (zVo G (zA G (zRn G - 1))) := by
    have := zU_le (f := fun w => if zVo G (zA G (zRn G - 1)) w = -1 then 0 else zVo G (zA G (zRn G - 1)) w) (lo := 0) (hi := 1980) (n := 8) (by decide) (fun k k0 k1 => by
      have := zVo_range hG (zA G (zRn G - 1)) k
      split <;> omega)
    unfold zSm
    omega
  have e5 : zW G = zWn (zVr G (zRn G - 1)) := if_neg hs
  have h5 := zVo_range hG (zA G (zRn G - 1)) (zW G)
  have h6 := (zWn_range r5).2.2
  rw [← e5] at h6
  have h7 : zVr G (zRn G - 1) (zW G) = zVo G (zA G (zRn G - 1)) (zW G) := rfl
  unfold zLs9 zLv
  rw [h7] at h6 ⊢
  rw [show zVr G (zRn G - 1) = zVo G (zA G (zRn G - 1)) from rfl]
  omega
section ZSH
variable {M : zM} {G : Int → Int}
theorem s_X11_winnerShare (Hw : zHw M) (R : zAR M 2 G) (hG : zWF G) (Hc : zHc M) (Hp : zHp M) (hs : zSt G ≠ 0) (hl : zLs9 G ≠ 0) : z_Call mX11_winnerShare zF [(1, 1)] M (fun r S' M' => r = (3, zfD (zLv G) (zLs9 G)) ∧ S' = zF ∧ zKt M M') := by
  have hst := zSt_range hG
  obtain ⟨r1, r2, r3, r4, r5⟩ := zRn_spec hG (show 1 ≤ zSt G by omega)
  have hrg := zLs_rg hG hs
  have hw := zW_range hG (by omega)
  have hgw := hG.w
  have e5 : zW G = zWn (zVr G (zRn G - 1)) := if_neg hs
  have h6 := (zWn_range r5).2.2
  rw [← e5] at h6
  refine z_enter (k := 2) rfl rfl rfl ?_
  refine zp_al0 (q := 1) dX11_winnerShare_0 rfl ?_
  refine zf_getG (v := 488) 5 (k1) (Hw.co) rfl fdX11_36 (q := 4) dX11_winnerShare_1 rfl rfl ?_
  refine zp_al0 (q := 5) dX11_winnerShare_4 rfl ?_
  refine zf_getG (v := 2) 0 (k1) (Hw.as) rfl fdX11_10 (q := 8) dX11_winnerShare_5 rfl rfl ?_
  refine zf_callV1 (k488) (s_X3_take as2 R hG Hc) mtX3_take wiX3_take weX3_take wlX11_153 (q := 11) dX11_winnerShare_8 rfl rfl rfl rfl rfl rfl rfl (fun r S9 M9 h8 hP => ?_) (fun k S9 M9 hP => (z_no hP.1 rfl).elim)
  obtain ⟨rfl, rfl, hT⟩ := hP
  have HW := hT.hw Hw
  have hK := hT.k Hp
  have hk := hT.r hG (i := zRn G - 1) (by omega) (by omega)
  have hro := ro490 (k := zRn G - 1) (by omega) (by omega)
  have ro := zRo_0 hro
  have ro1 := zRo_1 hro
  have hrp := (hT.2.1.2 (zRn G - 1) (by omega) (by omega)).2
  have hvb : zVb (M9 (490 + 2 * (zRn G - 1) + 1)) := fun w w0 w1 => by rw [hk.1 w w0 w1]; exact zVo_range hG _ w
  have hsm : zSm (M9 (490 + 2 * (zRn G - 1) + 1)) = zLs9 G := zU_congr (by decide) (fun w w0 w1 => by rw [hk.1 w w0 w1])
  refine zp_al0 (q := 12) dX11_winnerShare_11 rfl ?_
  refine zf_getG (v := 488) 5 (k1) (HW.co) rfl fdX11_36 (q := 15) dX11_winnerShare_12 rfl rfl ?_
  refine zf_getG (v := zRn G) 1 (k488) (hT.n) rfl fdX11_163 (q := 18) dX11_winnerShare_15 rfl rfl ?_
  refine zr_if_ne (q := 31) (q2 := 21) dX11_winnerShare_18 (by decide) rfl (fun h18 => ?_) (fun h18 => ?_)
  · refine zp_al0 (q := 32) dX11_winnerShare_31 rfl ?_
    refine zf_getG (v := 488) 5 (k1) (HW.co) rfl fdX11_36 (q := 35) dX11_winnerShare_32 rfl rfl ?_
    refine zf_getG (v := 489) 0 (k488) (hT.2.1.1) rfl fdX11_193 (q := 38) dX11_winnerShare_35 rfl rfl ?_
    refine zp_al0 (q := 39) dX11_winnerShare_38 rfl ?_
    refine zf_getG (v := 488) 5 (k1) (HW.co) rfl fdX11_36 (q := 42) dX11_winnerShare_39 rfl rfl ?_
    refine zf_getG (v := zRn G) 1 (k488) (hT.n) rfl fdX11_163 (q := 45) dX11_winnerShare_42 rfl rfl ?_
    refine zr_iconst (q := 46) dX11_winnerShare_45 rfl (z_in_of rfl) ?_
    refine zr_isub (q := 47) dX11_winnerShare_46 rfl (fun hA hB => by unfold z_in at hA hB ⊢; omega) ?_
    refine zf_aald (v := 490 + 2 * (zRn G - 1)) (by first | assumption | exact k518 | exact k519 | exact k520 | exact k521 | exact k522 | exact k523 | exact k524 | exact k525 | exact k526 | exact k527 | exact k528 | exact k510 | exact k512 | exact k515 | exact k516 | exact k507 | exact k509 | exact k135 | exact k489 | exact k529 | exact k530) ((hT.2.1.2 (zRn G - 1) (by omega) (by omega)).1) (by decide) (q := 48) dX11_winnerShare_47 rfl (by omega) (by omega) ?_
    refine zp_as1 (q := 49) dX11_winnerShare_48 rfl rfl rfl ?_
    refine zp_al1 (q := 50) dX11_winnerShare_49 rfl ?_
    refine zf_callV0 (by first | assumption | exact k508) (s_X8_sumOfVotes hro hrp hvb) mtX8_sumOfVotes wiX8_sumOfVotes weX8_sumOfVotes wlX11_197 (q := 53) dX11_winnerShare_50 rfl rfl rfl rfl rfl rfl rfl (fun r S9 M9 h8 hP => ?_) (fun k S9 M9 hP => (z_no hP.1 rfl).elim)
    obtain ⟨rfl, rfl, h9⟩ := hP
    subst M9
    rw [hsm]
    refine zp_is2 (q := 54) dX11_winnerShare_53 rfl rfl rfl ?_
    refine zp_il2 (q := 55) dX11_winnerShare_54 rfl ?_
    refine zr_if_ne (q := 68) (q2 := 58) dX11_winnerShare_55 (by decide) rfl (fun h55 => ?_) (fun h55 => ?_)
    · refine zp_al1 (q := 69) dX11_winnerShare_68 rfl ?_
      refine zp_al0 (q := 70) dX11_winnerShare_69 rfl ?_
      refine zf_getG (v := 488) 5 (k1) (HW.co) rfl fdX11_36 (q := 73) dX11_winnerShare_70 rfl rfl ?_
      refine zf_getG (v := zW G) 2 (k488) (hT.w) rfl fdX11_156 (q := 76) dX11_winnerShare_73 rfl rfl ?_
      refine zf_callV1 (by first | assumption | exact k508) (s_X8_votesOf hro hrp hw.1 (by omega)) mtX8_votesOf wiX8_votesOf weX8_votesOf wlX11_205 (q := 79) dX11_winnerShare_76 rfl rfl rfl rfl rfl rfl rfl (fun r S9 M9 h8 hP => ?_) (fun k S9 M9 hP => (z_no hP.1 rfl).elim)
      obtain ⟨rfl, rfl, h9⟩ := hP
      subst M9
      rw [hk.1 (zW G) hw.1 (by omega), if_neg h6]
      refine zr_i2f (q := 80) dX11_winnerShare_79 rfl ?_
      refine zp_il2 (q := 81) dX11_winnerShare_80 rfl ?_
      refine zr_i2f (q := 82) dX11_winnerShare_81 rfl ?_
      refine zr_fdiv (x := zLv G) (y := zLs9 G) (q := 83) (by omega) (by omega) (by omega) (by omega) dX11_winnerShare_82 rfl ?_
      refine zr_freturn dX11_winnerShare_83 rfl ?_
      exact ⟨rfl, rfl, hK⟩
    · exact absurd hl h55
  · exact absurd (show zRn G ≠ 0 by omega) h18
theorem s_X11_winnerShare_x (Hw : zHw M) (R : zAR M 2 G) (hG : zWF G) (Hc : zHc M) (Hp : zHp M) (hs : zSt G = 0) : z_Call mX11_winnerShare zF [(1, 1)] M (fun r S' M' => r = (8, 4) ∧ S' = zF ∧ zKt M M') := by
  have hr := zRn_0 hs
  refine z_enter (k := 2) rfl rfl rfl ?_
  refine zp_al0 (q := 1) dX11_winnerShare_0 rfl ?_
  refine zf_getG (v := 488) 5 (k1) (Hw.co) rfl fdX11_36 (q := 4) dX11_winnerShare_1 rfl rfl ?_
  refine zp_al0 (q := 5) dX11_winnerShare_4 rfl ?_
  refine zf_getG (v := 2) 0 (k1) (Hw.as) rfl fdX11_10 (q := 8) dX11_winnerShare_5 rfl rfl ?_
  refine zf_callV1 (k488) (s_X3_take as2 R hG Hc) mtX3_take wiX3_take weX3_take wlX11_153 (q := 11) dX11_winnerShare_8 rfl rfl rfl rfl rfl rfl rfl (fun r S9 M9 h8 hP => ?_) (fun k S9 M9 hP => (z_no hP.1 rfl).elim)
  obtain ⟨rfl, rfl, hT⟩ := hP
  have HW := hT.hw Hw
  have hK := hT.k Hp
  refine zp_al0 (q := 12) dX11_winnerShare_11 rfl ?_
  refine zf_getG (v := 488) 5 (k1) (HW.co) rfl fdX11_36 (q := 15) dX11_winnerShare_12 rfl rfl ?_
  refine zf_getG (v := 0) 1 (k488) (hT.n.trans hr) rfl fdX11_163 (q := 18) dX11_winnerShare_15 rfl rfl ?_
  refine zr_if_ne (q := 31) (q2 := 21) dX11_winnerShare_18 (by decide) rfl (fun h18 => ?_) (fun h18 => ?_)
  · exact absurd rfl h18
  · refine zr_throwN (i := 8) th_4 rfl (by decide) rfl rfl dX11_winnerShare_21 dX11_winnerShare_24 dX11_winnerShare_25 dX11_winnerShare_27 dX11_winnerShare_30 (by decide) rfl (by decide) (by decide) (by decide) ?_
    exact ⟨rfl, rfl, hK⟩
theorem s_X11_winnerShare_y (Hw : zHw M) (R : zAR M 2 G) (hG : zWF G) (Hc : zHc M) (Hp : zHp M) (hs : zSt G ≠ 0) (hl : zLs9 G = 0) : z_Call mX11_winnerShare zF [(1, 1)] M (fun r S' M' => r = (8, 3) ∧ S' = zF ∧ zKt M M') := by
  have hst := zSt_range hG
  obtain ⟨r1, r2, r3, r4, r5⟩ := zRn_spec hG (show 1 ≤ zSt G by omega)
  refine z_enter (k := 2) rfl rfl rfl ?_
  refine zp_al0 (q := 1) dX11_winnerShare_0 rfl ?_
  refine zf_getG (v := 488) 5 (k1) (Hw.co) rfl fdX11_36 (q := 4) dX11_winnerShare_1 rfl rfl ?_
  refine zp_al0 (q := 5) dX11_winnerShare_4 rfl ?_
  refine zf_getG (v := 2) 0 (k1) (Hw.as) rfl fdX11_10 (q := 8) dX11_winnerShare_5 rfl rfl ?_
  refine zf_callV1 (k488) (s_X3_take as2 R hG Hc) mtX3_take wiX3_take weX3_take wlX11_153 (q := 11) dX11_winnerShare_8 rfl rfl rfl rfl rfl rfl rfl (fun r S9 M9 h8 hP => ?_) (fun k S9 M9 hP => (z_no hP.1 rfl).elim)
  obtain ⟨rfl, rfl, hT⟩ := hP
  have HW := hT.hw Hw
  have hK := hT.k Hp
  have hk := hT.r hG (i := zRn G - 1) (by omega) (by omega)
  have hro := ro490 (k := zRn G - 1) (by omega) (by omega)
  have ro := zRo_0 hro
  have ro1 := zRo_1 hro
  have hrp := (hT.2.1.2 (zRn G - 1) (by omega) (by omega)).2
  have hvb : zVb (M9 (490 + 2 * (zRn G - 1) + 1)) := fun w w0 w1 => by rw [hk.1 w w0 w1]; exact zVo_range hG _ w
  have hsm : zSm (M9 (490 + 2 * (zRn G - 1) + 1)) = zLs9 G := zU_congr (by decide) (fun w w0 w1 => by rw [hk.1 w w0 w1])
  refine zp_al0 (q := 12) dX11_winnerShare_11 rfl ?_
  refine zf_getG (v := 488) 5 (k1) (HW.co) rfl fdX11_36 (q := 15) dX11_winnerShare_12 rfl rfl ?_
  refine zf_getG (v := zRn G) 1 (k488) (hT.n) rfl fdX11_163 (q := 18) dX11_winnerShare_15 rfl rfl ?_
  refine zr_if_ne (q := 31) (q2 := 21) dX11_winnerShare_18 (by decide) rfl (fun h18 => ?_) (fun h18 => ?_)
  · refine zp_al0 (q := 32) dX11_winnerShare_31 rfl ?_
    refine zf_getG (v := 488) 5 (k1) (HW.co) rfl fdX11_36 (q := 35) dX11_winnerShare_32 rfl rfl ?_
    refine zf_getG (v := 489) 0 (k488) (hT.2.1.1) rfl fdX11_193 (q := 38) dX11_winnerShare_35 rfl rfl ?_
    refine zp_al0 (q := 39) dX11_winnerShare_38 rfl ?_
    refine zf_getG (v := 488) 5 (k1) (HW.co) rfl fdX11_36 (q := 42) dX11_winnerShare_39 rfl rfl ?_
    refine zf_getG (v := zRn G) 1 (k488) (hT.n) rfl fdX11_163 (q := 45) dX11_winnerShare_42 rfl rfl ?_
    refine zr_iconst (q := 46) dX11_winnerShare_45 rfl (z_in_of rfl) ?_
    refine zr_isub (q := 47) dX11_winnerShare_46 rfl (fun hA hB => by unfold z_in at hA hB ⊢; omega) ?_
    refine zf_aald (v := 490 + 2 * (zRn G - 1)) (by first | assumption | exact k518 | exact k519 | exact k520 | exact k521 | exact k522 | exact k523 | exact k524 | exact k525 | exact k526 | exact k527 | exact k528 | exact k510 | exact k512 | exact k515 | exact k516 | exact k507 | exact k509 | exact k135 | exact k489 | exact k529 | exact k530) ((hT.2.1.2 (zRn G - 1) (by omega) (by omega)).1) (by decide) (q := 48) dX11_winnerShare_47 rfl (by omega) (by omega) ?_
    refine zp_as1 (q := 49) dX11_winnerShare_48 rfl rfl rfl ?_
    refine zp_al1 (q := 50) dX11_winnerShare_49 rfl ?_
    refine zf_callV0 (by first | assumption | exact k508) (s_X8_sumOfVotes hro hrp hvb) mtX8_sumOfVotes wiX8_sumOfVotes weX8_sumOfVotes wlX11_197 (q := 53) dX11_winnerShare_50 rfl rfl rfl rfl rfl rfl rfl (fun r S9 M9 h8 hP => ?_) (fun k S9 M9 hP => (z_no hP.1 rfl).elim)
    obtain ⟨rfl, rfl, h9⟩ := hP
    subst M9
    rw [hsm]
    refine zp_is2 (q := 54) dX11_winnerShare_53 rfl rfl rfl ?_
    refine zp_il2 (q := 55) dX11_winnerShare_54 rfl ?_
    refine zr_if_ne (q := 68) (q2 := 58) dX11_winnerShare_55 (by decide) rfl (fun h55 => ?_) (fun h55 => ?_)
    · exact absurd hl h55
    · refine zr_throwS (i := 13) th_3 rfl (by decide) rfl rfl dX11_winnerShare_58 dX11_winnerShare_61 dX11_winnerShare_62 dX11_winnerShare_64 dX11_winnerShare_67 (by decide) rfl (by decide) (by decide) (by decide) ?_
      exact ⟨rfl, rfl, hK⟩
  · exact absurd (show zRn G ≠ 0 by omega) h18
theorem s_X11_meanRanks (Hw : zHw M) (R : zAR M 2 G) (hG : zWF G) (hn : 0 < G 1) : z_Call mX11_meanRanks zF [(1, 1)] M (zpF 4 (zdD (zRks G) (G 1)) M) := by
  have hr := zRks_rg hG
  have hgn := hG.n
  refine z_enter (k := 0) rfl rfl rfl ?_
  refine zp_al0 (q := 1) dX11_meanRanks_0 rfl ?_
  refine zf_getG (v := 2) 0 (k1) (Hw.as) rfl fdX11_10 (q := 4) dX11_meanRanks_1 rfl rfl ?_
  refine zf_getG (v := G 1) 4 (by first | assumption | exact k2 | exact k46 | exact k90) (R.n) rfl fdX11_110 (q := 7) dX11_meanRanks_4 rfl rfl ?_
  refine zr_if_ne (q := 21) (q2 := 10) dX11_meanRanks_7 (by decide) rfl (fun h7 => ?_) (fun h7 => ?_)
  · refine zp_al0 (q := 22) dX11_meanRanks_21 rfl ?_
    refine zf_getG (v := 2) 0 (k1) (Hw.as) rfl fdX11_10 (q := 25) dX11_meanRanks_22 rfl rfl ?_
    refine zf_callV0 (by first | assumption | exact k2 | exact k46 | exact k90) (s_X1_ranksOfAll as2 R hG) mtX1_ranksOfAll wiX1_ranksOfAll weX1_ranksOfAll wlX11_274 (q := 28) dX11_meanRanks_25 rfl rfl rfl rfl rfl rfl rfl (fun r S9 M9 h8 hP => ?_) (fun k S9 M9 hP => (z_no hP.1 rfl).elim)
    obtain ⟨rfl, rfl, h9⟩ := hP
    subst M9
    refine zr_i2d (q := 29) dX11_meanRanks_28 rfl ?_
    refine zp_al0 (q := 30) dX11_meanRanks_29 rfl ?_
    refine zf_getG (v := 2) 0 (k1) (Hw.as) rfl fdX11_10 (q := 33) dX11_meanRanks_30 rfl rfl ?_
    refine zf_getG (v := G 1) 4 (by first | assumption | exact k2 | exact k46 | exact k90) (R.n) rfl fdX11_110 (q := 36) dX11_meanRanks_33 rfl rfl ?_
    refine zr_i2d (q := 37) dX11_meanRanks_36 rfl ?_
    refine zr_ddiv (x := zRks G) (y := G 1) (q := 38) (by omega) (by omega) (by omega) (by omega) dX11_meanRanks_37 rfl ?_
    refine zr_dreturn dX11_meanRanks_38 rfl ?_
    exact ⟨rfl, rfl, rfl⟩
  · exact absurd (show G 1 ≠ 0 by omega) h7
theorem s_X11_meanRanks_x (Hw : zHw M) (R : zAR M 2 G) (hn : G 1 = 0) : z_Call mX11_meanRanks zF [(1, 1)] M (zpF 8 3 M) := by
  refine z_enter (k := 0) rfl rfl rfl ?_
  refine zp_al0 (q := 1) dX11_meanRanks_0 rfl ?_
  refine zf_getG (v := 2) 0 (k1) (Hw.as) rfl fdX11_10 (q := 4) dX11_meanRanks_1 rfl rfl ?_
  refine zf_getG (v := 0) 4 (by first | assumption | exact k2 | exact k46 | exact k90) (R.n.trans hn) rfl fdX11_110 (q := 7) dX11_meanRanks_4 rfl rfl ?_
  refine zr_if_ne (q := 21) (q2 := 10) dX11_meanRanks_7 (by decide) rfl (fun h7 => ?_) (fun h7 => ?_)
  · exact absurd rfl h7
  · refine zr_throwSW (i := 15) th_3 rfl (by decide) rfl rfl dX11_meanRanks_10 dX11_meanRanks_13 dX11_meanRanks_14 dX11_meanRanks_17 dX11_meanRanks_20 (by decide) rfl (by decide) (by decide) (by decide) ?_
    exact ⟨rfl, rfl, rfl⟩
end ZSH
section ZSR
variable {M : zM}
theorem s_X12_winnerShare (H : zHm M) (hG : zWF (M 518)) (hs : zSt (M 518) ≠ 0) (hl : zLs9 (M 518) ≠ 0) : z_Call mX12_winnerShare zF [(1, 517)] M (zcA (3, zfD (zLv (M 518)) (zLs9 (M 518))) 0 M) := by
  have hst := zSt_range hG
  obtain ⟨r1, r2, r3, r4, r5⟩ := zRn_spec hG (show 1 ≤ zSt (M 518) by omega)
  have hrg := zLs_rg hG hs
  have hw := zW_range hG (by omega)
  have hgw := hG.w
  have htr := zTot_rg hG
  have hxr := zXk_range hG (zA (M 518) (zRn (M 518) - 1)) hG.n.1 (Int.le_refl _)
  refine z_enter (k := 1) rfl rfl rfl ?_
  refine zp_al0 (q := 1) dX12_winnerShare_0 rfl ?_
  refine zf_callV0 (k517) (s_X12_counts H hG) mtX12_counts wiX12_counts weX12_counts wlX12_130 (q := 4) dX12_winnerShare_1 rfl rfl rfl rfl rfl rfl rfl (fun r S9 M9 h8 hP => ?_) (fun k S9 M9 hP => (z_no hP.1 rfl).elim)
  obtain ⟨rfl, rfl, hT⟩ := hP
  have HT := hT.h H
  have eT := hT.g
  have hk := hT.2.2.2.2.2 (zRn (M 518) - 1) (by omega) (by omega)
  have sT := s_X12_total (M := z_up M9 517 7 0) HT.c (by rw [z_up_ne (by decide), eT]; exact hG)
  rw [z_up_ne (show (518 : Int) ≠ 517 by decide), eT] at sT
  refine zp_al0 (q := 5) dX12_winnerShare_4 rfl ?_
  refine zp_al0 (q := 6) dX12_winnerShare_5 rfl ?_
  refine zf_getG (v := zW (M 518)) 19 (k517) (hT.2.2.2.1) rfl fdX12_116 (q := 9) dX12_winnerShare_6 rfl rfl ?_
  refine zr_if_ge (q := 16) (q2 := 12) dX12_winnerShare_9 (by decide) rfl (fun h9 => ?_) (fun h9 => ?_)
  · refine zr_iconst (q := 17) dX12_winnerShare_16 rfl (z_in_of rfl) ?_
    refine zf_callV1 (k517) (s_X12_fails) mtX12_fails wiX12_fails weX12_fails wlX12_77 (q := 20) dX12_winnerShare_17 rfl rfl rfl rfl rfl rfl rfl (fun r S9 M9 h8 hP => ?_) (fun k S9 M9 hP => (z_no hP.1 rfl).elim)
    obtain ⟨rfl, rfl, h9⟩ := hP
    subst M9
    refine zr_if_eq (q := 25) (q2 := 23) dX12_winnerShare_20 (by decide) rfl (fun h20 => ?_) (fun h20 => ?_)
    · refine zp_al0 (q := 26) dX12_winnerShare_25 rfl ?_
      refine zf_callV0 (k517) (sT) mtX12_total wiX12_total weX12_total wlX12_107 (q := 29) dX12_winnerShare_26 rfl rfl rfl rfl rfl rfl rfl (fun r S9 M9 h8 hP => ?_) (fun k S9 M9 hP => (z_no hP.1 rfl).elim)
      obtain ⟨rfl, rfl, h9⟩ := hP
      subst M9
      refine zp_al0 (q := 30) dX12_winnerShare_29 rfl ?_
      refine zf_getG (v := 525) 15 (k517) (HT.c.2.2.2.2.2.2.2.1) rfl fdX12_39 (q := 33) dX12_winnerShare_30 rfl rfl ?_
      refine zp_al0 (q := 34) dX12_winnerShare_33 rfl ?_
      refine zf_getG (v := zRn (M 518)) 18 (k517) (by rw [z_up_sl (by decide)]; exact hT.2.2.1) rfl fdX12_110 (q := 37) dX12_winnerShare_34 rfl rfl ?_
      refine zr_iconst (q := 38) dX12_winnerShare_37 rfl (z_in_of rfl) ?_
      refine zr_isub (q := 39) dX12_winnerShare_38 rfl (fun hA hB => by unfold z_in at hA hB ⊢; omega) ?_
      refine zf_iald (v := zXk (M 518) (zA (M 518) (zRn (M 518) - 1)) (M 518 1)) (by first | assumption | exact k518 | exact k519 | exact k520 | exact k521 | exact k522 | exact k523 | exact k524 | exact k525 | exact k526 | exact k527 | exact k528 | exact k510 | exact k512 | exact k515 | exact k516 | exact k507 | exact k509 | exact k135 | exact k489 | exact k529 | exact k530) (by rw [z_up_ne (by decide)]; exact hk.2.1) (q := 40) dX12_winnerShare_39 rfl (by omega) (by omega) ?_
      refine zr_isub (q := 41) dX12_winnerShare_40 rfl (fun hA hB => by unfold z_in at hA hB ⊢; omega) ?_
      rw [show zTot (M 518) - zXk (M 518) (zA (M 518) (zRn (M 518) - 1)) (M 518 1) = zLs9 (M 518) by omega]
      refine zp_is1 (q := 42) dX12_winnerShare_41 rfl rfl rfl ?_
      refine zp_al0 (q := 43) dX12_winnerShare_42 rfl ?_
      refine zp_il1 (q := 44) dX12_winnerShare_43 rfl ?_
      refine zr_if_ne (q := 51) (q2 := 47) dX12_winnerShare_44 (by decide) rfl (fun h44 => ?_) (fun h44 => ?_)
      · refine zr_iconst (q := 52) dX12_winnerShare_51 rfl (z_in_of rfl) ?_
        refine zf_callV1 (k517) (s_X12_fails) mtX12_fails wiX12_fails weX12_fails wlX12_77 (q := 55) dX12_winnerShare_52 rfl rfl rfl rfl rfl rfl rfl (fun r S9 M9 h8 hP => ?_) (fun k S9 M9 hP => (z_no hP.1 rfl).elim)
        obtain ⟨rfl, rfl, h9⟩ := hP
        subst M9
        refine zr_if_eq (q := 62) (q2 := 58) dX12_winnerShare_55 (by decide) rfl (fun h55 => ?_) (fun h55 => ?_)
        · refine zp_al0 (q := 63) dX12_winnerShare_62 rfl ?_
          refine zf_getG (v := 524) 14 (k517) (HT.c.c.2.2.2.2.2.2.1) rfl fdX12_36 (q := 66) dX12_winnerShare_63 rfl rfl ?_
          refine zr_bipush (q := 68) dX12_winnerShare_66 rfl (z_in_of rfl) (by decide +kernel) ?_
          refine zp_al0 (q := 69) dX12_winnerShare_68 rfl ?_
          refine zf_getG (v := zRn (M 518)) 18 (k517) (by rw [z_up_sl (by decide), z_up_sl (by decide)]; exact hT.2.2.1) rfl fdX12_110 (q := 72) dX12_winnerShare_69 rfl rfl ?_
          refine zr_imul (q := 73) dX12_winnerShare_72 rfl (fun hA hB => by unfold z_in at hA hB ⊢; omega) ?_
          refine zr_bipush (q := 75) dX12_winnerShare_73 rfl (z_in_of rfl) (by decide +kernel) ?_
          refine zr_isub (q := 76) dX12_winnerShare_75 rfl (fun hA hB => by unfold z_in at hA hB ⊢; omega) ?_
          refine zp_al0 (q := 77) dX12_winnerShare_76 rfl ?_
          refine zf_getG (v := zW (M 518)) 19 (k517) (by rw [z_up_sl (by decide), z_up_sl (by decide)]; exact hT.2.2.2.1) rfl fdX12_116 (q := 80) dX12_winnerShare_77 rfl rfl ?_
          refine zr_iadd (q := 81) dX12_winnerShare_80 rfl (fun hA hB => by unfold z_in at hA hB ⊢; omega) ?_
          refine zf_iald (v := zLv (M 518)) (by first | assumption | exact k518 | exact k519 | exact k520 | exact k521 | exact k522 | exact k523 | exact k524 | exact k525 | exact k526 | exact k527 | exact k528 | exact k510 | exact k512 | exact k515 | exact k516 | exact k507 | exact k509 | exact k135 | exact k489 | exact k529 | exact k530) (by rw [z_up_ne (by decide), z_up_ne (by decide), show 8 * zRn (M 518) - 8 + zW (M 518) = 8 * (zRn (M 518) - 1) + zW (M 518) by omega]; exact hk.1 (zW (M 518)) hw.1 (by omega)) (q := 82) dX12_winnerShare_81 rfl (by omega) (by omega) ?_
          refine zr_i2f (q := 83) dX12_winnerShare_82 rfl ?_
          refine zp_il1 (q := 84) dX12_winnerShare_83 rfl ?_
          refine zr_i2f (q := 85) dX12_winnerShare_84 rfl ?_
          refine zr_fdiv (x := zLv (M 518)) (y := zLs9 (M 518)) (q := 86) (by omega) (by omega) (by omega) (by omega) dX12_winnerShare_85 rfl ?_
          refine zr_freturn dX12_winnerShare_86 rfl ?_
          refine ⟨rfl, rfl, fun z a b d e f => by rw [z_up_ne a, z_up_ne a]; exact hT.1 z a b d e f, fun j a b d e => by rw [z_up_sl a, z_up_sl a]; exact hT.2.1 j b d e, z_up_eq⟩
        · exact absurd h55 (by decide)
      · exact absurd hl h44
    · exact absurd h20 (by decide)
  · exact absurd hw.1 h9
theorem s_X12_winnerShare_x (H : zHm M) (hG : zWF (M 518)) (hs : zSt (M 518) = 0) : z_Call mX12_winnerShare zF [(1, 517)] M (zcA (3, 0) 1 M) := by
  refine z_enter (k := 1) rfl rfl rfl ?_
  refine zp_al0 (q := 1) dX12_winnerShare_0 rfl ?_
  refine zf_callV0 (k517) (s_X12_counts H hG) mtX12_counts wiX12_counts weX12_counts wlX12_130 (q := 4) dX12_winnerShare_1 rfl rfl rfl rfl rfl rfl rfl (fun r S9 M9 h8 hP => ?_) (fun k S9 M9 hP => (z_no hP.1 rfl).elim)
  obtain ⟨rfl, rfl, hT⟩ := hP
  have HT := hT.h H
  have eT := hT.g
  refine zp_al0 (q := 5) dX12_winnerShare_4 rfl ?_
  refine zp_al0 (q := 6) dX12_winnerShare_5 rfl ?_
  refine zf_getG (v := -1) 19 (k517) (hT.2.2.2.1.trans ((zW_neg hG).mpr hs)) rfl fdX12_116 (q := 9) dX12_winnerShare_6 rfl rfl ?_
  refine zr_if_ge (q := 16) (q2 := 12) dX12_winnerShare_9 (by decide) rfl (fun h9 => ?_) (fun h9 => ?_)
  · exact absurd h9 (by decide)
  · refine zr_iconst (q := 13) dX12_winnerShare_12 rfl (z_in_of rfl) ?_
    refine zr_goto (q := 17) dX12_winnerShare_13 (by decide) ?_
    refine zf_callV1 (k517) (s_X12_fails) mtX12_fails wiX12_fails weX12_fails wlX12_77 (q := 20) dX12_winnerShare_17 rfl rfl rfl rfl rfl rfl rfl (fun r S9 M9 h8 hP => ?_) (fun k S9 M9 hP => (z_no hP.1 rfl).elim)
    obtain ⟨rfl, rfl, h9⟩ := hP
    subst M9
    refine zr_if_eq (q := 25) (q2 := 23) dX12_winnerShare_20 (by decide) rfl (fun h20 => ?_) (fun h20 => ?_)
    · exact absurd h20 (by decide)
    · refine zr_fconst (q := 24) dX12_winnerShare_23 rfl ?_
      refine zr_freturn dX12_winnerShare_24 rfl ?_
      refine ⟨rfl, rfl, fun z a b d e f => by rw [z_up_ne a]; exact hT.1 z a b d e f, fun j a b d e => by rw [z_up_sl a]; exact hT.2.1 j b d e, z_up_eq⟩
theorem s_X12_winnerShare_y (H : zHm M) (hG : zWF (M 518)) (hs : zSt (M 518) ≠ 0) (hl : zLs9 (M 518) = 0) : z_Call mX12_winnerShare zF [(1, 517)] M (zcA (3, 0) 2 M) := by
  have hst := zSt_range hG
  obtain ⟨r1, r2, r3, r4, r5⟩ := zRn_spec hG (show 1 ≤ zSt (M 518) by omega)
  have hrg := zLs_rg hG hs
  have hw := zW_range hG (by omega)
  have hgw := hG.w
  have htr := zTot_rg hG
  have hxr := zXk_range hG (zA (M 518) (zRn (M 518) - 1)) hG.n.1 (Int.le_refl _)
  refine z_enter (k := 1) rfl rfl rfl ?_
  refine zp_al0 (q := 1) dX12_winnerShare_0 rfl ?_
  refine zf_callV0 (k517) (s_X12_counts H hG) mtX12_counts wiX12_counts weX12_counts wlX12_130 (q := 4) dX12_winnerShare_1 rfl rfl rfl rfl rfl rfl rfl (fun r S9 M9 h8 hP => ?_) (fun k S9 M9 hP => (z_no hP.1 rfl).elim)
  obtain ⟨rfl, rfl, hT⟩ := hP
  have HT := hT.h H
  have eT := hT.g
  have hk := hT.2.2.2.2.2 (zRn (M 518) - 1) (by omega) (by omega)
  have sT := s_X12_total (M := z_up M9 517 7 0) HT.c (by rw [z_up_ne (by decide), eT]; exact hG)
  rw [z_up_ne (show (518 : Int) ≠ 517 by decide), eT] at sT
  refine zp_al0 (q := 5) dX12_winnerShare_4 rfl ?_
  refine zp_al0 (q := 6) dX12_winnerShare_5 rfl ?_
  refine zf_getG (v := zW (M 518)) 19 (k517) (hT.2.2.2.1) rfl fdX12_116 (q := 9) dX12_winnerShare_6 rfl rfl ?_
  refine zr_if_ge (q := 16) (q2 := 12) dX12_winnerShare_9 (by decide) rfl (fun h9 => ?_) (fun h9 => ?_)
  · refine zr_iconst (q := 17) dX12_winnerShare_16 rfl (z_in_of rfl) ?_
    refine zf_callV1 (k517) (s_X12_fails) mtX12_fails wiX12_fails weX12_fails wlX12_77 (q := 20) dX12_winnerShare_17 rfl rfl rfl rfl rfl rfl rfl (fun r S9 M9 h8 hP => ?_) (fun k S9 M9 hP => (z_no hP.1 rfl).elim)
    obtain ⟨rfl, rfl, h9⟩ := hP
    subst M9
    refine zr_if_eq (q := 25) (q2 := 23) dX12_winnerShare_20 (by decide) rfl (fun h20 => ?_) (fun h20 => ?_)
    · refine zp_al0 (q := 26) dX12_winnerShare_25 rfl ?_
      refine zf_callV0 (k517) (sT) mtX12_total wiX12_total weX12_total wlX12_107 (q := 29) dX12_winnerShare_26 rfl rfl rfl rfl rfl rfl rfl (fun r S9 M9 h8 hP => ?_) (fun k S9 M9 hP => (z_no hP.1 rfl).elim)
      obtain ⟨rfl, rfl, h9⟩ := hP
      subst M9
      refine zp_al0 (q := 30) dX12_winnerShare_29 rfl ?_
      refine zf_getG (v := 525) 15 (k517) (HT.c.2.2.2.2.2.2.2.1) rfl fdX12_39 (q := 33) dX12_winnerShare_30 rfl rfl ?_
      refine zp_al0 (q := 34) dX12_winnerShare_33 rfl ?_
      refine zf_getG (v := zRn (M 518)) 18 (k517) (by rw [z_up_sl (by decide)]; exact hT.2.2.1) rfl fdX12_110 (q := 37) dX12_winnerShare_34 rfl rfl ?_
      refine zr_iconst (q := 38) dX12_winnerShare_37 rfl (z_in_of rfl) ?_
      refine zr_isub (q := 39) dX12_winnerShare_38 rfl (fun hA hB => by unfold z_in at hA hB ⊢; omega) ?_
      refine zf_iald (v := zXk (M 518) (zA (M 518) (zRn (M 518) - 1)) (M 518 1)) (by first | assumption | exact k518 | exact k519 | exact k520 | exact k521 | exact k522 | exact k523 | exact k524 | exact k525 | exact k526 | exact k527 | exact k528 | exact k510 | exact k512 | exact k515 | exact k516 | exact k507 | exact k509 | exact k135 | exact k489 | exact k529 | exact k530) (by rw [z_up_ne (by decide)]; exact hk.2.1) (q := 40) dX12_winnerShare_39 rfl (by omega) (by omega) ?_
      refine zr_isub (q := 41) dX12_winnerShare_40 rfl (fun hA hB => by unfold z_in at hA hB ⊢; omega) ?_
      rw [show zTot (M 518) - zXk (M 518) (zA (M 518) (zRn (M 518) - 1)) (M 518 1) = zLs9 (M 518) by omega]
      refine zp_is1 (q := 42) dX12_winnerShare_41 rfl rfl rfl ?_
      refine zp_al0 (q := 43) dX12_winnerShare_42 rfl ?_
      refine zp_il1 (q := 44) dX12_winnerShare_43 rfl ?_
      refine zr_if_ne (q := 51) (q2 := 47) dX12_winnerShare_44 (by decide) rfl (fun h44 => ?_) (fun h44 => ?_)
      · exact absurd hl h44
      · refine zr_iconst (q := 48) dX12_winnerShare_47 rfl (z_in_of rfl) ?_
        refine zr_goto (q := 52) dX12_winnerShare_48 (by decide) ?_
        refine zf_callV1 (k517) (s_X12_fails) mtX12_fails wiX12_fails weX12_fails wlX12_77 (q := 55) dX12_winnerShare_52 rfl rfl rfl rfl rfl rfl rfl (fun r S9 M9 h8 hP => ?_) (fun k S9 M9 hP => (z_no hP.1 rfl).elim)
        obtain ⟨rfl, rfl, h9⟩ := hP
        subst M9
        refine zr_if_eq (q := 62) (q2 := 58) dX12_winnerShare_55 (by decide) rfl (fun h55 => ?_) (fun h55 => ?_)
        · exact absurd h55 (by decide)
        · refine zr_fconst (q := 59) dX12_winnerShare_58 rfl ?_
          refine zr_goto (q := 86) dX12_winnerShare_59 (by decide) ?_
          refine zr_freturn dX12_winnerShare_86 rfl ?_
          refine ⟨rfl, rfl, fun z a b d e f => by rw [z_up_ne a, z_up_ne a]; exact hT.1 z a b d e f, fun j a b d e => by rw [z_up_sl a, z_up_sl a]; exact hT.2.1 j b d e, z_up_eq⟩
    · exact absurd h20 (by decide)
  · exact absurd hw.1 h9
theorem s_X12_meanRanks_l (H : zHm M) (hG : zWF (M 518)) (hn : 0 < M 518 1) {bc bs : Nat} : ∀ (m : Nat) (k x : Int), 0 ≤ k → k ≤ M 518 1 → M 518 1 - k < m → 0 ≤ x → x ≤ 5 * k → x = zU (fun b => M 518 (20 + 7 * b + 1)) k →
    z_Ex mX12_meanRanks zF 27 [(1, 517), (0, x), (0, k)] [] M bc bs (zpF 4 (zdD (zRks (M 518)) (M 518 1)) M) := by
  have hr := zRks_rg hG
  have hgn := hG.n
  intro m
  induction m with
  | zero => intro k x a1 a2 a3; omega
  | succ m ih =>
    intro k x a1 a2 a3 x0 x1 ex
    by_cases ek : k < M 518 1
    · have hz := hG.sz a1 ek
      have hs := zU_s (fun b => M 518 (20 + 7 * b + 1)) a1
      refine zp_il2 (q := 28) dX12_meanRanks_27 rfl ?_
      refine zp_al0 (q := 29) dX12_meanRanks_28 rfl ?_
      refine zf_getG (v := 518) 0 (k517) (H.1) rfl fdX12_7 (q := 32) dX12_meanRanks_29 rfl rfl ?_
      refine zr_iconst (q := 33) dX12_meanRanks_32 rfl (z_in_of rfl) ?_
      refine zf_iald (v := M 518 1) (by first | assumption | exact k518 | exact k519 | exact k520 | exact k521 | exact k522 | exact k523 | exact k524 | exact k525 | exact k526 | exact k527 | exact k528 | exact k510 | exact k512 | exact k515 | exact k516 | exact k507 | exact k509 | exact k135 | exact k489 | exact k529 | exact k530) (rfl) (q := 34) dX12_meanRanks_33 rfl (by omega) (by omega) ?_
      refine zr_icmp_ge (q := 52) (q2 := 37) dX12_meanRanks_34 (by decide) rfl (fun h34 => ?_) (fun h34 => ?_)
      · exact absurd h34 (by omega)
      · refine zp_il1 (q := 38) dX12_meanRanks_37 rfl ?_
        refine zp_al0 (q := 39) dX12_meanRanks_38 rfl ?_
        refine zp_il2 (q := 40) dX12_meanRanks_39 rfl ?_
        refine zr_iconst (q := 41) dX12_meanRanks_40 rfl (z_in_of rfl) ?_
        refine zf_callV2 (k517) (s_X12_of H a1 (by omega) (by decide) (by decide)) mtX12_of wiX12_of weX12_of wlX12_91 (q := 44) dX12_meanRanks_41 rfl rfl rfl rfl rfl rfl rfl (fun r S9 M9 h8 hP => ?_) (fun k S9 M9 hP => (z_no hP.1 rfl).elim)
        obtain ⟨rfl, rfl, h9⟩ := hP
        subst M9
        refine zr_iadd (q := 45) dX12_meanRanks_44 rfl (fun hA hB => by unfold z_in at hA hB ⊢; omega) ?_
        refine zp_is1 (q := 46) dX12_meanRanks_45 rfl rfl rfl ?_
        refine zp_inc2 (q := 49) dX12_meanRanks_46 rfl rfl rfl (fun hA => by unfold z_in at hA ⊢; omega) ?_
        refine zr_goto (q := 27) dX12_meanRanks_49 (by decide) ?_
        exact ih (k + 1) _ (by omega) (by omega) (by omega) (by omega) (by omega) (by omega)
    · have e : k = M 518 1 := by omega
      have ex2 : x = zRks (M 518) := by rw [ex, e]; rfl
      refine zp_il2 (q := 28) dX12_meanRanks_27 rfl ?_
      refine zp_al0 (q := 29) dX12_meanRanks_28 rfl ?_
      refine zf_getG (v := 518) 0 (k517) (H.1) rfl fdX12_7 (q := 32) dX12_meanRanks_29 rfl rfl ?_
      refine zr_iconst (q := 33) dX12_meanRanks_32 rfl (z_in_of rfl) ?_
      refine zf_iald (v := M 518 1) (by first | assumption | exact k518 | exact k519 | exact k520 | exact k521 | exact k522 | exact k523 | exact k524 | exact k525 | exact k526 | exact k527 | exact k528 | exact k510 | exact k512 | exact k515 | exact k516 | exact k507 | exact k509 | exact k135 | exact k489 | exact k529 | exact k530) (rfl) (q := 34) dX12_meanRanks_33 rfl (by omega) (by omega) ?_
      refine zr_icmp_ge (q := 52) (q2 := 37) dX12_meanRanks_34 (by decide) rfl (fun h34 => ?_) (fun h34 => ?_)
      · rw [ex2]
        refine zp_il1 (q := 53) dX12_meanRanks_52 rfl ?_
        refine zr_i2d (q := 54) dX12_meanRanks_53 rfl ?_
        refine zp_al0 (q := 55) dX12_meanRanks_54 rfl ?_
        refine zf_getG (v := 518) 0 (k517) (H.1) rfl fdX12_7 (q := 58) dX12_meanRanks_55 rfl rfl ?_
        refine zr_iconst (q := 59) dX12_meanRanks_58 rfl (z_in_of rfl) ?_
        refine zf_iald (v := M 518 1) (by first | assumption | exact k518 | exact k519 | exact k520 | exact k521 | exact k522 | exact k523 | exact k524 | exact k525 | exact k526 | exact k527 | exact k528 | exact k510 | exact k512 | exact k515 | exact k516 | exact k507 | exact k509 | exact k135 | exact k489 | exact k529 | exact k530) (rfl) (q := 60) dX12_meanRanks_59 rfl (by omega) (by omega) ?_
        refine zr_i2d (q := 61) dX12_meanRanks_60 rfl ?_
        refine zr_ddiv (x := zRks (M 518)) (y := M 518 1) (q := 62) (by omega) (by omega) (by omega) (by omega) dX12_meanRanks_61 rfl ?_
        refine zr_dreturn dX12_meanRanks_62 rfl ?_
        exact ⟨rfl, rfl, rfl⟩
      · exact absurd (by omega) h34
theorem s_X12_meanRanks (H : zHm M) (hG : zWF (M 518)) (hn : 0 < M 518 1) : z_Call mX12_meanRanks zF [(1, 517)] M (zpF 4 (zdD (zRks (M 518)) (M 518 1)) (z_up M 517 7 0)) := by
  refine z_enter (k := 2) rfl rfl rfl ?_
  refine zp_al0 (q := 1) dX12_meanRanks_0 rfl ?_
  refine zp_al0 (q := 2) dX12_meanRanks_1 rfl ?_
  refine zf_getG (v := 518) 0 (k517) (H.1) rfl fdX12_7 (q := 5) dX12_meanRanks_2 rfl rfl ?_
  refine zr_iconst (q := 6) dX12_meanRanks_5 rfl (z_in_of rfl) ?_
  refine zf_iald (v := M 518 1) (by first | assumption | exact k518 | exact k519 | exact k520 | exact k521 | exact k522 | exact k523 | exact k524 | exact k525 | exact k526 | exact k527 | exact k528 | exact k510 | exact k512 | exact k515 | exact k516 | exact k507 | exact k509 | exact k135 | exact k489 | exact k529 | exact k530) (rfl) (q := 7) dX12_meanRanks_6 rfl (by omega) (by omega) ?_
  refine zr_if_ne (q := 14) (q2 := 10) dX12_meanRanks_7 (by decide) rfl (fun h7 => ?_) (fun h7 => ?_)
  · refine zr_iconst (q := 15) dX12_meanRanks_14 rfl (z_in_of rfl) ?_
    refine zf_callV1 (k517) (s_X12_fails) mtX12_fails wiX12_fails weX12_fails wlX12_77 (q := 18) dX12_meanRanks_15 rfl rfl rfl rfl rfl rfl rfl (fun r S9 M9 h8 hP => ?_) (fun k S9 M9 hP => (z_no hP.1 rfl).elim)
    obtain ⟨rfl, rfl, h9⟩ := hP
    subst M9
    refine zr_if_eq (q := 23) (q2 := 21) dX12_meanRanks_18 (by decide) rfl (fun h18 => ?_) (fun h18 => ?_)
    · refine zr_iconst (q := 24) dX12_meanRanks_23 rfl (z_in_of rfl) ?_
      refine zp_is1 (q := 25) dX12_meanRanks_24 rfl rfl rfl ?_
      refine zr_iconst (q := 26) dX12_meanRanks_25 rfl (z_in_of rfl) ?_
      refine zp_is2 (q := 27) dX12_meanRanks_26 rfl rfl rfl ?_
      exact s_X12_meanRanks_l H.c hG hn 21 0 0 (by omega) (by rw [z_up_ne (by decide)]; omega) (by have := hG.n; rw [z_up_ne (by decide)]; omega) (by omega) (by omega) rfl
    · exact absurd h18 (by decide)
  · exact absurd (show M 518 1 ≠ 0 by omega) h7
theorem s_X12_meanRanks_x (H : zHm M) (hn : M 518 1 = 0) : z_Call mX12_meanRanks zF [(1, 517)] M (zpF 4 0 (z_up M 517 7 1)) := by
  refine z_enter (k := 2) rfl rfl rfl ?_
  refine zp_al0 (q := 1) dX12_meanRanks_0 rfl ?_
  refine zp_al0 (q := 2) dX12_meanRanks_1 rfl ?_
  refine zf_getG (v := 518) 0 (k517) (H.1) rfl fdX12_7 (q := 5) dX12_meanRanks_2 rfl rfl ?_
  refine zr_iconst (q := 6) dX12_meanRanks_5 rfl (z_in_of rfl) ?_
  refine zf_iald (v := 0) (by first | assumption | exact k518 | exact k519 | exact k520 | exact k521 | exact k522 | exact k523 | exact k524 | exact k525 | exact k526 | exact k527 | exact k528 | exact k510 | exact k512 | exact k515 | exact k516 | exact k507 | exact k509 | exact k135 | exact k489 | exact k529 | exact k530) (hn) (q := 7) dX12_meanRanks_6 rfl (by omega) (by omega) ?_
  refine zr_if_ne (q := 14) (q2 := 10) dX12_meanRanks_7 (by decide) rfl (fun h7 => ?_) (fun h7 => ?_)
  · exact absurd rfl h7
  · refine zr_iconst (q := 11) dX12_meanRanks_10 rfl (z_in_of rfl) ?_
    refine zr_goto (q := 15) dX12_meanRanks_11 (by decide) ?_
    refine zf_callV1 (k517) (s_X12_fails) mtX12_fails wiX12_fails weX12_fails wlX12_77 (q := 18) dX12_meanRanks_15 rfl rfl rfl rfl rfl rfl rfl (fun r S9 M9 h8 hP => ?_) (fun k S9 M9 hP => (z_no hP.1 rfl).elim)
    obtain ⟨rfl, rfl, h9⟩ := hP
    subst M9
    refine zr_if_eq (q := 23) (q2 := 21) dX12_meanRanks_18 (by decide) rfl (fun h18 => ?_) (fun h18 => ?_)
    · exact absurd h18 (by decide)
    · refine zr_dconst (q := 22) dX12_meanRanks_21 rfl ?_
      refine zr_dreturn dX12_meanRanks_22 rfl ?_
      exact ⟨rfl, rfl, rfl⟩
end ZSR
