/-! dep: 30 -/
/-! ===== WindElection: what only reads ===== -/
def zHw (M : zM) : Prop := M 1 0 = 2 ∧ M 1 1 = 46 ∧ M 1 2 = 90 ∧ M 1 4 = 134 ∧ M 1 5 = 488 ∧ M 1 6 = 506 ∧ M 1 7 = 510 ∧ M 1 8 = 511 ∧ M 1 9 = 513
section ZW
variable {M : zM} {G : Int → Int}
theorem zHw.as (h : zHw M) : M 1 0 = 2 := h.1
theorem zHw.be (h : zHw M) : M 1 1 = 46 := h.2.1
theorem zHw.sn (h : zHw M) : M 1 2 = 90 := h.2.2.1
theorem zHw.hi (h : zHw M) : M 1 4 = 134 := h.2.2.2.1
theorem zHw.co (h : zHw M) : M 1 5 = 488 := h.2.2.2.2.1
theorem zHw.pi (h : zHw M) : M 1 6 = 506 := h.2.2.2.2.2.1
theorem zHw.sc (h : zHw M) : M 1 7 = 510 := h.2.2.2.2.2.2.1
theorem zHw.li (h : zHw M) : M 1 8 = 511 := h.2.2.2.2.2.2.2.1
theorem zHw.re (h : zHw M) : M 1 9 = 513 := h.2.2.2.2.2.2.2.2

theorem s_X11_checkWind (Hw : zHw M) (R : zAR M 2 G) (hG : zWF G) {w : Int} (hw : 0 ≤ w ∧ w < G 0) : z_Call mX11_checkWind zF [(1, 1), (0, w)] M (zpF 9 0 M) := by
  refine z_enter (k := 0) rfl rfl rfl ?_
  refine zp_al0 (q := 1) dX11_checkWind_0 rfl ?_
  refine zf_getG (v := 2) 0 (k1) (Hw.as) rfl fdX11_10 (q := 4) dX11_checkWind_1 rfl rfl ?_
  refine zp_il1 (q := 5) dX11_checkWind_4 rfl ?_
  refine zf_callV1 (by first | assumption | exact k2 | exact k46 | exact k90) (s_X1_hasWind as2 R) mtX1_hasWind wiX1_hasWind weX1_hasWind wlX11_318 (q := 8) dX11_checkWind_5 rfl rfl rfl rfl rfl rfl rfl (fun r S9 M9 h8 hP => ?_) (fun k S9 M9 hP => (z_no hP.1 rfl).elim)
  obtain ⟨rfl, rfl, h9⟩ := hP
  subst M9
  refine zr_if_ne (q := 22) (q2 := 11) dX11_checkWind_8 (by decide) rfl (fun h8 => ?_) (fun h8 => ?_)
  · refine zr_return dX11_checkWind_22 rfl ?_
    exact ⟨rfl, rfl, rfl⟩
  · exact absurd (by rw [if_pos hw]; decide) h8
theorem s_X11_checkWind_x (Hw : zHw M) (R : zAR M 2 G) (hG : zWF G) {w : Int} (hw : ¬ (0 ≤ w ∧ w < G 0)) : z_Call mX11_checkWind zF [(1, 1), (0, w)] M (zpF 8 0 M) := by
  refine z_enter (k := 0) rfl rfl rfl ?_
  refine zp_al0 (q := 1) dX11_checkWind_0 rfl ?_
  refine zf_getG (v := 2) 0 (k1) (Hw.as) rfl fdX11_10 (q := 4) dX11_checkWind_1 rfl rfl ?_
  refine zp_il1 (q := 5) dX11_checkWind_4 rfl ?_
  refine zf_callV1 (by first | assumption | exact k2 | exact k46 | exact k90) (s_X1_hasWind as2 R) mtX1_hasWind wiX1_hasWind weX1_hasWind wlX11_318 (q := 8) dX11_checkWind_5 rfl rfl rfl rfl rfl rfl rfl (fun r S9 M9 h8 hP => ?_) (fun k S9 M9 hP => (z_no hP.1 rfl).elim)
  obtain ⟨rfl, rfl, h9⟩ := hP
  subst M9
  refine zr_if_ne (q := 22) (q2 := 11) dX11_checkWind_8 (by decide) rfl (fun h8 => ?_) (fun h8 => ?_)
  · exact absurd (if_neg hw) h8
  · refine zr_throwSW (i := 0) th_0 rfl (by decide) rfl rfl dX11_checkWind_11 dX11_checkWind_14 dX11_checkWind_15 dX11_checkWind_18 dX11_checkWind_21 (by decide) rfl (by decide) (by decide) (by decide) ?_
    exact ⟨rfl, rfl, rfl⟩
theorem s_X11_ballotNumbered (Hw : zHw M) (R : zAR M 2 G) (hG : zWF G) {b : Int} (hb : 0 ≤ b ∧ b < G 1) : z_Call mX11_ballotNumbered zF [(1, 1), (0, b)] M (zpF 1 (M (2 + 3) b) M) := by
  have hn := hG.n
  refine z_enter (k := 0) rfl rfl rfl ?_
  refine zp_al0 (q := 1) dX11_ballotNumbered_0 rfl ?_
  refine zf_getG (v := 2) 0 (k1) (Hw.as) rfl fdX11_10 (q := 4) dX11_ballotNumbered_1 rfl rfl ?_
  refine zp_il1 (q := 5) dX11_ballotNumbered_4 rfl ?_
  refine zf_callV1 (by first | assumption | exact k2 | exact k46 | exact k90) (s_X1_hasBallot as2 R) mtX1_hasBallot wiX1_hasBallot weX1_hasBallot wlX11_323 (q := 8) dX11_ballotNumbered_5 rfl rfl rfl rfl rfl rfl rfl (fun r S9 M9 h8 hP => ?_) (fun k S9 M9 hP => (z_no hP.1 rfl).elim)
  obtain ⟨rfl, rfl, h9⟩ := hP
  subst M9
  refine zr_if_ne (q := 22) (q2 := 11) dX11_ballotNumbered_8 (by decide) rfl (fun h8 => ?_) (fun h8 => ?_)
  · refine zp_al0 (q := 23) dX11_ballotNumbered_22 rfl ?_
    refine zf_getG (v := 2) 0 (k1) (Hw.as) rfl fdX11_10 (q := 26) dX11_ballotNumbered_23 rfl rfl ?_
    refine zf_getG (v := 2 + 3) 5 (by first | assumption | exact k2 | exact k46 | exact k90) (R.h.p3) rfl fdX11_328 (q := 29) dX11_ballotNumbered_26 rfl rfl ?_
    refine zp_il1 (q := 30) dX11_ballotNumbered_29 rfl ?_
    refine zf_aald (v := _) (zAs_3 as2) (rfl) (by decide) (q := 31) dX11_ballotNumbered_30 rfl (by omega) (by omega) ?_
    refine zr_areturn dX11_ballotNumbered_31 rfl (Or.inl ⟨_, rfl⟩) ?_
    exact ⟨rfl, rfl, rfl⟩
  · exact absurd (by rw [if_pos hb]; decide) h8
theorem s_X11_ballotNumbered_x (Hw : zHw M) (R : zAR M 2 G) (hG : zWF G) {b : Int} (hb : ¬ (0 ≤ b ∧ b < G 1)) : z_Call mX11_ballotNumbered zF [(1, 1), (0, b)] M (zpF 8 0 M) := by
  refine z_enter (k := 0) rfl rfl rfl ?_
  refine zp_al0 (q := 1) dX11_ballotNumbered_0 rfl ?_
  refine zf_getG (v := 2) 0 (k1) (Hw.as) rfl fdX11_10 (q := 4) dX11_ballotNumbered_1 rfl rfl ?_
  refine zp_il1 (q := 5) dX11_ballotNumbered_4 rfl ?_
  refine zf_callV1 (by first | assumption | exact k2 | exact k46 | exact k90) (s_X1_hasBallot as2 R) mtX1_hasBallot wiX1_hasBallot weX1_hasBallot wlX11_323 (q := 8) dX11_ballotNumbered_5 rfl rfl rfl rfl rfl rfl rfl (fun r S9 M9 h8 hP => ?_) (fun k S9 M9 hP => (z_no hP.1 rfl).elim)
  obtain ⟨rfl, rfl, h9⟩ := hP
  subst M9
  refine zr_if_ne (q := 22) (q2 := 11) dX11_ballotNumbered_8 (by decide) rfl (fun h8 => ?_) (fun h8 => ?_)
  · exact absurd (if_neg hb) h8
  · refine zr_throwSW (i := 1) th_0 rfl (by decide) rfl rfl dX11_ballotNumbered_11 dX11_ballotNumbered_14 dX11_ballotNumbered_15 dX11_ballotNumbered_18 dX11_ballotNumbered_21 (by decide) rfl (by decide) (by decide) (by decide) ?_
    exact ⟨rfl, rfl, rfl⟩
theorem s_X11_found {x : Int} (hx : x ≠ -1) : z_Call mX11_found zF [(0, x)] M (zpF 0 x M) := by
  refine z_enter (k := 0) rfl rfl rfl ?_
  refine zp_il0 (q := 1) dX11_found_0 rfl ?_
  refine zr_iconst (q := 2) dX11_found_1 rfl (z_in_of rfl) ?_
  refine zr_icmp_ne (q := 16) (q2 := 5) dX11_found_2 (by decide) rfl (fun h2 => ?_) (fun h2 => ?_)
  · refine zp_il0 (q := 17) dX11_found_16 rfl ?_
    refine zr_ireturn dX11_found_17 rfl (z_fit_i _) ?_
    exact ⟨rfl, rfl, rfl⟩
  · exact absurd hx h2
theorem s_X11_found_x {x : Int} (hx : x = -1) : z_Call mX11_found zF [(0, x)] M (zpF 8 4 M) := by
  refine z_enter (k := 0) rfl rfl rfl ?_
  refine zp_il0 (q := 1) dX11_found_0 rfl ?_
  refine zr_iconst (q := 2) dX11_found_1 rfl (z_in_of rfl) ?_
  refine zr_icmp_ne (q := 16) (q2 := 5) dX11_found_2 (by decide) rfl (fun h2 => ?_) (fun h2 => ?_)
  · exact absurd hx h2
  · refine zr_throwNW (i := 10) th_4 rfl (by decide) rfl rfl dX11_found_5 dX11_found_8 dX11_found_9 dX11_found_12 dX11_found_15 (by decide) rfl (by decide) (by decide) (by decide) ?_
    exact ⟨rfl, rfl, rfl⟩
theorem s_X11_windCount (Hw : zHw M) (R : zAR M 2 G) (hG : zWF G) : z_Call mX11_windCount zF [(1, 1)] M (zpF 0 (G 0) M) := by
  refine z_enter (k := 0) rfl rfl rfl ?_
  refine zp_al0 (q := 1) dX11_windCount_0 rfl ?_
  refine zf_getG (v := 2) 0 (k1) (Hw.as) rfl fdX11_10 (q := 4) dX11_windCount_1 rfl rfl ?_
  refine zf_getG (v := G 0) 0 (by first | assumption | exact k2 | exact k46 | exact k90) (R.w) rfl fdX11_84 (q := 7) dX11_windCount_4 rfl rfl ?_
  refine zr_ireturn dX11_windCount_7 rfl (z_fit_i _) ?_
  exact ⟨rfl, rfl, rfl⟩
theorem s_X11_standingCount (Hw : zHw M) (R : zAR M 2 G) (hG : zWF G) : z_Call mX11_standingCount zF [(1, 1)] M (zpF 0 (zSt G) M) := by
  refine z_enter (k := 0) rfl rfl rfl ?_
  refine zp_al0 (q := 1) dX11_standingCount_0 rfl ?_
  refine zf_getG (v := 2) 0 (k1) (Hw.as) rfl fdX11_10 (q := 4) dX11_standingCount_1 rfl rfl ?_
  refine zf_callV0 (by first | assumption | exact k2 | exact k46 | exact k90) (s_X1_standingWinds as2 R hG) mtX1_standingWinds wiX1_standingWinds weX1_standingWinds wlX11_91 (q := 7) dX11_standingCount_4 rfl rfl rfl rfl rfl rfl rfl (fun r S9 M9 h8 hP => ?_) (fun k S9 M9 hP => (z_no hP.1 rfl).elim)
  obtain ⟨rfl, rfl, h9⟩ := hP
  subst M9
  refine zr_ireturn dX11_standingCount_7 rfl (z_fit_i _) ?_
  exact ⟨rfl, rfl, rfl⟩
theorem s_X11_isStanding (Hw : zHw M) (R : zAR M 2 G) (hG : zWF G) {w : Int} (hw : 0 ≤ w ∧ w < G 0) : z_Call mX11_isStanding zF [(1, 1), (0, w)] M (zpF 0 (if G (4 + w) = 0 then 1 else 0) M) := by
  have hg := hG.w
  refine z_enter (k := 0) rfl rfl rfl ?_
  refine zp_al0 (q := 1) dX11_isStanding_0 rfl ?_
  refine zp_il1 (q := 2) dX11_isStanding_1 rfl ?_
  refine zf_callV1 (k1) (s_X11_checkWind Hw R hG hw) mtX11_checkWind wiX11_checkWind weX11_checkWind wlX11_95 (q := 5) dX11_isStanding_2 rfl rfl rfl rfl rfl rfl rfl (fun r S9 M9 h8 hP => ?_) (fun k S9 M9 hP => (z_no hP.1 rfl).elim)
  obtain ⟨rfl, rfl, h9⟩ := hP
  subst M9
  refine zp_al0 (q := 6) dX11_isStanding_5 rfl ?_
  refine zf_getG (v := 2) 0 (k1) (Hw.as) rfl fdX11_10 (q := 9) dX11_isStanding_6 rfl rfl ?_
  refine zf_getG (v := 2 + 1) 1 (k2) (R.h.p1) rfl fdX11_99 (q := 12) dX11_isStanding_9 rfl rfl ?_
  refine zp_il1 (q := 13) dX11_isStanding_12 rfl ?_
  refine zf_zald (v := if G (4 + w) = 0 then 1 else 0) (zAs_1 as2) (R.st hw.1 hw.2) (q := 14) dX11_isStanding_13 rfl (by omega) (by omega) ?_
  refine zr_ireturn dX11_isStanding_14 rfl (z_fit_z (by split <;> decide)) ?_
  exact ⟨rfl, rfl, rfl⟩
theorem s_X11_isStanding_x (Hw : zHw M) (R : zAR M 2 G) (hG : zWF G) {w : Int} (hw : ¬ (0 ≤ w ∧ w < G 0)) : z_Call mX11_isStanding zF [(1, 1), (0, w)] M (zpF 8 0 M) := by
  refine z_enter (k := 0) rfl rfl rfl ?_
  refine zp_al0 (q := 1) dX11_isStanding_0 rfl ?_
  refine zp_il1 (q := 2) dX11_isStanding_1 rfl ?_
  refine zf_callV1 (k1) (s_X11_checkWind_x Hw R hG hw) mtX11_checkWind wiX11_checkWind weX11_checkWind wlX11_95 (q := 5) dX11_isStanding_2 rfl rfl rfl rfl rfl rfl rfl (fun r S9 M9 h8 hP => absurd (congrArg Prod.fst hP.1) h8) (fun k S9 M9 hP => ?_)
  obtain ⟨h8, rfl, h9⟩ := hP
  subst M9
  cases h8
  exact ⟨rfl, rfl, rfl⟩
theorem s_X11_hasSeat (Hw : zHw M) (R : zAR M 2 G) (hG : zWF G) {w : Int} (hw : 0 ≤ w ∧ w < G 0) : z_Call mX11_hasSeat zF [(1, 1), (0, w)] M (zpF 0 (if G (4 + w) = 2 then 1 else 0) M) := by
  have hg := hG.w
  have hs := R.seat.1 w hw.1 hw.2
  have ht := hG.tg w hw.1 hw.2
  refine z_enter (k := 0) rfl rfl rfl ?_
  refine zp_al0 (q := 1) dX11_hasSeat_0 rfl ?_
  refine zp_il1 (q := 2) dX11_hasSeat_1 rfl ?_
  refine zf_callV1 (k1) (s_X11_checkWind Hw R hG hw) mtX11_checkWind wiX11_checkWind weX11_checkWind wlX11_95 (q := 5) dX11_hasSeat_2 rfl rfl rfl rfl rfl rfl rfl (fun r S9 M9 h8 hP => ?_) (fun k S9 M9 hP => (z_no hP.1 rfl).elim)
  obtain ⟨rfl, rfl, h9⟩ := hP
  subst M9
  refine zp_al0 (q := 6) dX11_hasSeat_5 rfl ?_
  refine zf_getG (v := 2) 0 (k1) (Hw.as) rfl fdX11_10 (q := 9) dX11_hasSeat_6 rfl rfl ?_
  refine zf_getG (v := 2 + 2) 2 (k2) (R.h.p2) rfl fdX11_103 (q := 12) dX11_hasSeat_9 rfl rfl ?_
  refine zp_il1 (q := 13) dX11_hasSeat_12 rfl ?_
  refine zf_iald (v := _) (zAs_2 as2) (rfl) (q := 14) dX11_hasSeat_13 rfl (by omega) (by omega) ?_
  refine zr_iconst (q := 15) dX11_hasSeat_14 rfl (z_in_of rfl) ?_
  refine zr_icmp_eq (q := 22) (q2 := 18) dX11_hasSeat_15 (by decide) rfl (fun h15 => ?_) (fun h15 => ?_)
  · refine zr_iconst (q := 23) dX11_hasSeat_22 rfl (z_in_of rfl) ?_
    refine zr_ireturn dX11_hasSeat_23 rfl (z_fit_z (by decide)) ?_
    exact ⟨by first | rw [if_pos (by omega)] | rw [if_neg (by omega)], rfl, rfl⟩
  · refine zr_iconst (q := 19) dX11_hasSeat_18 rfl (z_in_of rfl) ?_
    refine zr_goto (q := 23) dX11_hasSeat_19 (by decide) ?_
    refine zr_ireturn dX11_hasSeat_23 rfl (z_fit_z (by decide)) ?_
    exact ⟨by first | rw [if_pos (by omega)] | rw [if_neg (by omega)], rfl, rfl⟩
theorem s_X11_hasSeat_x (Hw : zHw M) (R : zAR M 2 G) (hG : zWF G) {w : Int} (hw : ¬ (0 ≤ w ∧ w < G 0)) : z_Call mX11_hasSeat zF [(1, 1), (0, w)] M (zpF 8 0 M) := by
  refine z_enter (k := 0) rfl rfl rfl ?_
  refine zp_al0 (q := 1) dX11_hasSeat_0 rfl ?_
  refine zp_il1 (q := 2) dX11_hasSeat_1 rfl ?_
  refine zf_callV1 (k1) (s_X11_checkWind_x Hw R hG hw) mtX11_checkWind wiX11_checkWind weX11_checkWind wlX11_95 (q := 5) dX11_hasSeat_2 rfl rfl rfl rfl rfl rfl rfl (fun r S9 M9 h8 hP => absurd (congrArg Prod.fst hP.1) h8) (fun k S9 M9 hP => ?_)
  obtain ⟨h8, rfl, h9⟩ := hP
  subst M9
  cases h8
  exact ⟨rfl, rfl, rfl⟩
theorem s_X11_ballotCount (Hw : zHw M) (R : zAR M 2 G) (hG : zWF G) : z_Call mX11_ballotCount zF [(1, 1)] M (zpF 0 (G 1) M) := by
  refine z_enter (k := 0) rfl rfl rfl ?_
  refine zp_al0 (q := 1) dX11_ballotCount_0 rfl ?_
  refine zf_getG (v := 2) 0 (k1) (Hw.as) rfl fdX11_10 (q := 4) dX11_ballotCount_1 rfl rfl ?_
  refine zf_getG (v := G 1) 4 (by first | assumption | exact k2 | exact k46 | exact k90) (R.n) rfl fdX11_110 (q := 7) dX11_ballotCount_4 rfl rfl ?_
  refine zr_ireturn dX11_ballotCount_7 rfl (z_fit_i _) ?_
  exact ⟨rfl, rfl, rfl⟩
theorem s_X11_weightOf (Hw : zHw M) (R : zAR M 2 G) (hG : zWF G) {b : Int} (hb : 0 ≤ b ∧ b < G 1) : z_Call mX11_weightOf zF [(1, 1), (0, b)] M (zpF 0 (G (20 + 7 * b)) M) := by
  have hn := hG.n
  have hl := R.h.bl hb.1 (show b < 20 by omega)
  have ob := zBl_0 as2 hl
  have o1 := zBl_1 as2 hl
  have hz := hG.sz hb.1 hb.2
  refine z_enter (k := 0) rfl rfl rfl ?_
  refine zp_al0 (q := 1) dX11_weightOf_0 rfl ?_
  refine zp_il1 (q := 2) dX11_weightOf_1 rfl ?_
  refine zf_callV1 (k1) (s_X11_ballotNumbered Hw R hG hb) mtX11_ballotNumbered wiX11_ballotNumbered weX11_ballotNumbered wlX11_116 (q := 5) dX11_weightOf_2 rfl rfl rfl rfl rfl rfl rfl (fun r S9 M9 h8 hP => ?_) (fun k S9 M9 hP => (z_no hP.1 rfl).elim)
  obtain ⟨rfl, rfl, h9⟩ := hP
  subst M9
  refine zf_getG (v := G (20 + 7 * b)) 0 (by assumption) (R.bw hb.1 hb.2) rfl fdX11_125 (q := 8) dX11_weightOf_5 rfl rfl ?_
  refine zr_ireturn dX11_weightOf_8 rfl (z_fit_i _) ?_
  exact ⟨rfl, rfl, rfl⟩
theorem s_X11_weightOf_x (Hw : zHw M) (R : zAR M 2 G) (hG : zWF G) {b : Int} (hb : ¬ (0 ≤ b ∧ b < G 1)) : z_Call mX11_weightOf zF [(1, 1), (0, b)] M (zpF 8 0 M) := by
  refine z_enter (k := 0) rfl rfl rfl ?_
  refine zp_al0 (q := 1) dX11_weightOf_0 rfl ?_
  refine zp_il1 (q := 2) dX11_weightOf_1 rfl ?_
  refine zf_callV1 (k1) (s_X11_ballotNumbered_x Hw R hG hb) mtX11_ballotNumbered wiX11_ballotNumbered weX11_ballotNumbered wlX11_116 (q := 5) dX11_weightOf_2 rfl rfl rfl rfl rfl rfl rfl (fun r S9 M9 h8 hP => absurd (congrArg Prod.fst hP.1) h8) (fun k S9 M9 hP => ?_)
  obtain ⟨h8, rfl, h9⟩ := hP
  subst M9
  cases h8
  exact ⟨rfl, rfl, rfl⟩
theorem s_X11_rankCount (Hw : zHw M) (R : zAR M 2 G) (hG : zWF G) {b : Int} (hb : 0 ≤ b ∧ b < G 1) : z_Call mX11_rankCount zF [(1, 1), (0, b)] M (zpF 0 (G (20 + 7 * b + 1)) M) := by
  have hn := hG.n
  have hl := R.h.bl hb.1 (show b < 20 by omega)
  have ob := zBl_0 as2 hl
  have o1 := zBl_1 as2 hl
  have hz := hG.sz hb.1 hb.2
  refine z_enter (k := 0) rfl rfl rfl ?_
  refine zp_al0 (q := 1) dX11_rankCount_0 rfl ?_
  refine zp_il1 (q := 2) dX11_rankCount_1 rfl ?_
  refine zf_callV1 (k1) (s_X11_ballotNumbered Hw R hG hb) mtX11_ballotNumbered wiX11_ballotNumbered weX11_ballotNumbered wlX11_116 (q := 5) dX11_rankCount_2 rfl rfl rfl rfl rfl rfl rfl (fun r S9 M9 h8 hP => ?_) (fun k S9 M9 hP => (z_no hP.1 rfl).elim)
  obtain ⟨rfl, rfl, h9⟩ := hP
  subst M9
  refine zf_getG (v := G (20 + 7 * b + 1)) 1 (by assumption) (R.bn hb.1 hb.2) rfl fdX11_120 (q := 8) dX11_rankCount_5 rfl rfl ?_
  refine zr_ireturn dX11_rankCount_8 rfl (z_fit_i _) ?_
  exact ⟨rfl, rfl, rfl⟩
theorem s_X11_rankCount_x (Hw : zHw M) (R : zAR M 2 G) (hG : zWF G) {b : Int} (hb : ¬ (0 ≤ b ∧ b < G 1)) : z_Call mX11_rankCount zF [(1, 1), (0, b)] M (zpF 8 0 M) := by
  refine z_enter (k := 0) rfl rfl rfl ?_
  refine zp_al0 (q := 1) dX11_rankCount_0 rfl ?_
  refine zp_il1 (q := 2) dX11_rankCount_1 rfl ?_
  refine zf_callV1 (k1) (s_X11_ballotNumbered_x Hw R hG hb) mtX11_ballotNumbered wiX11_ballotNumbered weX11_ballotNumbered wlX11_116 (q := 5) dX11_rankCount_2 rfl rfl rfl rfl rfl rfl rfl (fun r S9 M9 h8 hP => absurd (congrArg Prod.fst hP.1) h8) (fun k S9 M9 hP => ?_)
  obtain ⟨h8, rfl, h9⟩ := hP
  subst M9
  cases h8
  exact ⟨rfl, rfl, rfl⟩
theorem s_X11_windAt (Hw : zHw M) (R : zAR M 2 G) (hG : zWF G) {b : Int} (hb : 0 ≤ b ∧ b < G 1) {k : Int} (hk : 0 ≤ k ∧ k < G (20 + 7 * b + 1)) : z_Call mX11_windAt zF [(1, 1), (0, b), (0, k)] M (zpF 0 (G (20 + 7 * b + 2 + k)) M) := by
  have hn := hG.n
  have hl := R.h.bl hb.1 (show b < 20 by omega)
  have ob := zBl_0 as2 hl
  have o1 := zBl_1 as2 hl
  have hz := hG.sz hb.1 hb.2
  refine z_enter (k := 1) rfl rfl rfl ?_
  refine zp_al0 (q := 1) dX11_windAt_0 rfl ?_
  refine zp_il1 (q := 2) dX11_windAt_1 rfl ?_
  refine zf_callV1 (k1) (s_X11_ballotNumbered Hw R hG hb) mtX11_ballotNumbered wiX11_ballotNumbered weX11_ballotNumbered wlX11_116 (q := 5) dX11_windAt_2 rfl rfl rfl rfl rfl rfl rfl (fun r S9 M9 h8 hP => ?_) (fun k S9 M9 hP => (z_no hP.1 rfl).elim)
  obtain ⟨rfl, rfl, h9⟩ := hP
  subst M9
  refine zp_as3 (q := 6) dX11_windAt_5 rfl rfl rfl ?_
  refine zp_il2 (q := 7) dX11_windAt_6 rfl ?_
  refine zr_if_lt (q := 18) (q2 := 10) dX11_windAt_7 (by decide) rfl (fun h7 => ?_) (fun h7 => ?_)
  · exact absurd hk (by omega)
  · refine zp_il2 (q := 11) dX11_windAt_10 rfl ?_
    refine zp_al3 (q := 12) dX11_windAt_11 rfl ?_
    refine zf_getG (v := G (20 + 7 * b + 1)) 1 (by assumption) (R.bn hb.1 hb.2) rfl fdX11_120 (q := 15) dX11_windAt_12 rfl rfl ?_
    refine zr_icmp_lt (q := 28) (q2 := 18) dX11_windAt_15 (by decide) rfl (fun h15 => ?_) (fun h15 => ?_)
    · refine zp_al3 (q := 29) dX11_windAt_28 rfl ?_
      refine zf_getG (v := M (2 + 3) b + 1) 2 (by assumption) (R.h.bp hl) rfl fdX11_141 (q := 32) dX11_windAt_29 rfl rfl ?_
      refine zp_il2 (q := 33) dX11_windAt_32 rfl ?_
      refine zf_iald (v := G (20 + 7 * b + 2 + k)) (by first | assumption | exact k518 | exact k519 | exact k520 | exact k521 | exact k522 | exact k523 | exact k524 | exact k525 | exact k526 | exact k527 | exact k528 | exact k510 | exact k512 | exact k515 | exact k516 | exact k507 | exact k509 | exact k135 | exact k489 | exact k529 | exact k530) (R.bj hb.1 hb.2 k hk.1 hk.2) (q := 34) dX11_windAt_33 rfl (by omega) (by omega) ?_
      refine zr_ireturn dX11_windAt_34 rfl (z_fit_i _) ?_
      exact ⟨rfl, rfl, rfl⟩
    · exact absurd hk (by omega)
theorem s_X11_windAt_x (Hw : zHw M) (R : zAR M 2 G) (hG : zWF G) {b : Int} (hb : ¬ (0 ≤ b ∧ b < G 1)) {k : Int} : z_Call mX11_windAt zF [(1, 1), (0, b), (0, k)] M (zpF 8 0 M) := by
  refine z_enter (k := 1) rfl rfl rfl ?_
  refine zp_al0 (q := 1) dX11_windAt_0 rfl ?_
  refine zp_il1 (q := 2) dX11_windAt_1 rfl ?_
  refine zf_callV1 (k1) (s_X11_ballotNumbered_x Hw R hG hb) mtX11_ballotNumbered wiX11_ballotNumbered weX11_ballotNumbered wlX11_116 (q := 5) dX11_windAt_2 rfl rfl rfl rfl rfl rfl rfl (fun r S9 M9 h8 hP => absurd (congrArg Prod.fst hP.1) h8) (fun k S9 M9 hP => ?_)
  obtain ⟨h8, rfl, h9⟩ := hP
  subst M9
  cases h8
  exact ⟨rfl, rfl, rfl⟩
theorem s_X11_windAt_y (Hw : zHw M) (R : zAR M 2 G) (hG : zWF G) {b : Int} (hb : 0 ≤ b ∧ b < G 1) {k : Int} (hk : ¬ (0 ≤ k ∧ k < G (20 + 7 * b + 1))) : z_Call mX11_windAt zF [(1, 1), (0, b), (0, k)] M (zpF 8 4 M) := by
  have hn := hG.n
  have hl := R.h.bl hb.1 (show b < 20 by omega)
  have ob := zBl_0 as2 hl
  have o1 := zBl_1 as2 hl
  have hz := hG.sz hb.1 hb.2
  refine z_enter (k := 1) rfl rfl rfl ?_
  refine zp_al0 (q := 1) dX11_windAt_0 rfl ?_
  refine zp_il1 (q := 2) dX11_windAt_1 rfl ?_
  refine zf_callV1 (k1) (s_X11_ballotNumbered Hw R hG hb) mtX11_ballotNumbered wiX11_ballotNumbered weX11_ballotNumbered wlX11_116 (q := 5) dX11_windAt_2 rfl rfl rfl rfl rfl rfl rfl (fun r S9 M9 h8 hP => ?_) (fun k S9 M9 hP => (z_no hP.1 rfl).elim)
  obtain ⟨rfl, rfl, h9⟩ := hP
  subst M9
  refine zp_as3 (q := 6) dX11_windAt_5 rfl rfl rfl ?_
  refine zp_il2 (q := 7) dX11_windAt_6 rfl ?_
  refine zr_if_lt (q := 18) (q2 := 10) dX11_windAt_7 (by decide) rfl (fun h7 => ?_) (fun h7 => ?_)
  · refine zr_throwN (i := 9) th_4 rfl (by decide) rfl rfl dX11_windAt_18 dX11_windAt_21 dX11_windAt_22 dX11_windAt_24 dX11_windAt_27 (by decide) rfl (by decide) (by decide) (by decide) ?_
    exact ⟨rfl, rfl, rfl⟩
  · refine zp_il2 (q := 11) dX11_windAt_10 rfl ?_
    refine zp_al3 (q := 12) dX11_windAt_11 rfl ?_
    refine zf_getG (v := G (20 + 7 * b + 1)) 1 (by assumption) (R.bn hb.1 hb.2) rfl fdX11_120 (q := 15) dX11_windAt_12 rfl rfl ?_
    refine zr_icmp_lt (q := 28) (q2 := 18) dX11_windAt_15 (by decide) rfl (fun h15 => ?_) (fun h15 => ?_)
    · exact absurd (show 0 ≤ k ∧ k < G (20 + 7 * b + 1) by omega) hk
    · refine zr_throwN (i := 9) th_4 rfl (by decide) rfl rfl dX11_windAt_18 dX11_windAt_21 dX11_windAt_22 dX11_windAt_24 dX11_windAt_27 (by decide) rfl (by decide) (by decide) (by decide) ?_
      exact ⟨rfl, rfl, rfl⟩
theorem s_X11_rankOf (Hw : zHw M) (R : zAR M 2 G) (hG : zWF G) {b : Int} (hb : 0 ≤ b ∧ b < G 1) {w : Int} (hw : 0 ≤ w ∧ w < G 0) (hp : zPl G b w ≠ -1) : z_Call mX11_rankOf zF [(1, 1), (0, b), (0, w)] M (zpF 0 (zPl G b w) M) := by
  have hn := hG.n
  have hl := R.h.bl hb.1 (show b < 20 by omega)
  have ob := zBl_0 as2 hl
  have o1 := zBl_1 as2 hl
  have hz := hG.sz hb.1 hb.2
  refine z_enter (k := 1) rfl rfl rfl ?_
  refine zp_al0 (q := 1) dX11_rankOf_0 rfl ?_
  refine zp_il1 (q := 2) dX11_rankOf_1 rfl ?_
  refine zf_callV1 (k1) (s_X11_ballotNumbered Hw R hG hb) mtX11_ballotNumbered wiX11_ballotNumbered weX11_ballotNumbered wlX11_116 (q := 5) dX11_rankOf_2 rfl rfl rfl rfl rfl rfl rfl (fun r S9 M9 h8 hP => ?_) (fun k S9 M9 hP => (z_no hP.1 rfl).elim)
  obtain ⟨rfl, rfl, h9⟩ := hP
  subst M9
  refine zp_as3 (q := 6) dX11_rankOf_5 rfl rfl rfl ?_
  refine zp_al0 (q := 7) dX11_rankOf_6 rfl ?_
  refine zp_il2 (q := 8) dX11_rankOf_7 rfl ?_
  refine zf_callV1 (k1) (s_X11_checkWind Hw R hG hw) mtX11_checkWind wiX11_checkWind weX11_checkWind wlX11_95 (q := 11) dX11_rankOf_8 rfl rfl rfl rfl rfl rfl rfl (fun r S9 M9 h8 hP => ?_) (fun k S9 M9 hP => (z_no hP.1 rfl).elim)
  obtain ⟨rfl, rfl, h9⟩ := hP
  subst M9
  refine zp_al3 (q := 12) dX11_rankOf_11 rfl ?_
  refine zp_il2 (q := 13) dX11_rankOf_12 rfl ?_
  refine zf_callV1 (by assumption) (s_placeOf as2 R hG hb.1 hb.2) mtX2_placeOf wiX2_placeOf weX2_placeOf wlX11_143 (q := 16) dX11_rankOf_13 rfl rfl rfl rfl rfl rfl rfl (fun r S9 M9 h8 hP => ?_) (fun k S9 M9 hP => (z_no hP.1 rfl).elim)
  obtain ⟨rfl, rfl, h9⟩ := hP
  subst M9
  refine zp_callS1 (s_X11_found hp) mtX11_found wtX11_found wlX11_147 (q := 19) dX11_rankOf_16 rfl rfl rfl rfl rfl (fun r S9 M9 h8 hP => ?_) (fun k S9 M9 hP => (z_no hP.1 rfl).elim)
  obtain ⟨rfl, rfl, h9⟩ := hP
  subst M9
  refine zr_ireturn dX11_rankOf_19 rfl (z_fit_i _) ?_
  exact ⟨rfl, rfl, rfl⟩
theorem s_X11_rankOf_x (Hw : zHw M) (R : zAR M 2 G) (hG : zWF G) {b w : Int} (hb : ¬ (0 ≤ b ∧ b < G 1)) : z_Call mX11_rankOf zF [(1, 1), (0, b), (0, w)] M (zpF 8 0 M) := by
  refine z_enter (k := 1) rfl rfl rfl ?_
  refine zp_al0 (q := 1) dX11_rankOf_0 rfl ?_
  refine zp_il1 (q := 2) dX11_rankOf_1 rfl ?_
  refine zf_callV1 (k1) (s_X11_ballotNumbered_x Hw R hG hb) mtX11_ballotNumbered wiX11_ballotNumbered weX11_ballotNumbered wlX11_116 (q := 5) dX11_rankOf_2 rfl rfl rfl rfl rfl rfl rfl (fun r S9 M9 h8 hP => absurd (congrArg Prod.fst hP.1) h8) (fun k S9 M9 hP => ?_)
  obtain ⟨h8, rfl, h9⟩ := hP
  subst M9
  cases h8
  exact ⟨rfl, rfl, rfl⟩
theorem s_X11_rankOf_y (Hw : zHw M) (R : zAR M 2 G) (hG : zWF G) {b : Int} (hb : 0 ≤ b ∧ b < G 1) {w : Int} (hw : ¬ (0 ≤ w ∧ w < G 0)) : z_Call mX11_rankOf zF [(1, 1), (0, b), (0, w)] M (zpF 8 0 M) := by
  refine z_enter (k := 1) rfl rfl rfl ?_
  refine zp_al0 (q := 1) dX11_rankOf_0 rfl ?_
  refine zp_il1 (q := 2) dX11_rankOf_1 rfl ?_
  refine zf_callV1 (k1) (s_X11_ballotNumbered Hw R hG hb) mtX11_ballotNumbered wiX11_ballotNumbered weX11_ballotNumbered wlX11_116 (q := 5) dX11_rankOf_2 rfl rfl rfl rfl rfl rfl rfl (fun r S9 M9 h8 hP => ?_) (fun k S9 M9 hP => (z_no hP.1 rfl).elim)
  obtain ⟨rfl, rfl, h9⟩ := hP
  subst M9
  refine zp_as3 (q := 6) dX11_rankOf_5 rfl rfl rfl ?_
  refine zp_al0 (q := 7) dX11_rankOf_6 rfl ?_
  refine zp_il2 (q := 8) dX11_rankOf_7 rfl ?_
  refine zf_callV1 (k1) (s_X11_checkWind_x Hw R hG hw) mtX11_checkWind wiX11_checkWind weX11_checkWind wlX11_95 (q := 11) dX11_rankOf_8 rfl rfl rfl rfl rfl rfl rfl (fun r S9 M9 h8 hP => absurd (congrArg Prod.fst hP.1) h8) (fun k S9 M9 hP => ?_)
  obtain ⟨h8, rfl, h9⟩ := hP
  subst M9
  cases h8
  exact ⟨rfl, rfl, rfl⟩
theorem s_X11_rankOf_z (Hw : zHw M) (R : zAR M 2 G) (hG : zWF G) {b : Int} (hb : 0 ≤ b ∧ b < G 1) {w : Int} (hw : 0 ≤ w ∧ w < G 0) (hp : zPl G b w = -1) : z_Call mX11_rankOf zF [(1, 1), (0, b), (0, w)] M (zpF 8 4 M) := by
  have hn := hG.n
  have hl := R.h.bl hb.1 (show b < 20 by omega)
  have ob := zBl_0 as2 hl
  have o1 := zBl_1 as2 hl
  have hz := hG.sz hb.1 hb.2
  refine z_enter (k := 1) rfl rfl rfl ?_
  refine zp_al0 (q := 1) dX11_rankOf_0 rfl ?_
  refine zp_il1 (q := 2) dX11_rankOf_1 rfl ?_
  refine zf_callV1 (k1) (s_X11_ballotNumbered Hw R hG hb) mtX11_ballotNumbered wiX11_ballotNumbered weX11_ballotNumbered wlX11_116 (q := 5) dX11_rankOf_2 rfl rfl rfl rfl rfl rfl rfl (fun r S9 M9 h8 hP => ?_) (fun k S9 M9 hP => (z_no hP.1 rfl).elim)
  obtain ⟨rfl, rfl, h9⟩ := hP
  subst M9
  refine zp_as3 (q := 6) dX11_rankOf_5 rfl rfl rfl ?_
  refine zp_al0 (q := 7) dX11_rankOf_6 rfl ?_
  refine zp_il2 (q := 8) dX11_rankOf_7 rfl ?_
  refine zf_callV1 (k1) (s_X11_checkWind Hw R hG hw) mtX11_checkWind wiX11_checkWind weX11_checkWind wlX11_95 (q := 11) dX11_rankOf_8 rfl rfl rfl rfl rfl rfl rfl (fun r S9 M9 h8 hP => ?_) (fun k S9 M9 hP => (z_no hP.1 rfl).elim)
  obtain ⟨rfl, rfl, h9⟩ := hP
  subst M9
  refine zp_al3 (q := 12) dX11_rankOf_11 rfl ?_
  refine zp_il2 (q := 13) dX11_rankOf_12 rfl ?_
  refine zf_callV1 (by assumption) (s_placeOf as2 R hG hb.1 hb.2) mtX2_placeOf wiX2_placeOf weX2_placeOf wlX11_143 (q := 16) dX11_rankOf_13 rfl rfl rfl rfl rfl rfl rfl (fun r S9 M9 h8 hP => ?_) (fun k S9 M9 hP => (z_no hP.1 rfl).elim)
  obtain ⟨rfl, rfl, h9⟩ := hP
  subst M9
  refine zp_callS1 (s_X11_found_x hp) mtX11_found wtX11_found wlX11_147 (q := 19) dX11_rankOf_16 rfl rfl rfl rfl rfl (fun r S9 M9 h8 hP => absurd (congrArg Prod.fst hP.1) h8) (fun k S9 M9 hP => ?_)
  obtain ⟨h8, rfl, h9⟩ := hP
  subst M9
  cases h8
  exact ⟨rfl, rfl, rfl⟩
theorem s_X11_totalWeight (Hw : zHw M) (R : zAR M 2 G) (hG : zWF G) : z_Call mX11_totalWeight zF [(1, 1)] M (zpF 0 (zTot G) M) := by
  refine z_enter (k := 0) rfl rfl rfl ?_
  refine zp_al0 (q := 1) dX11_totalWeight_0 rfl ?_
  refine zf_getG (v := 2) 0 (k1) (Hw.as) rfl fdX11_10 (q := 4) dX11_totalWeight_1 rfl rfl ?_
  refine zf_callV0 (by first | assumption | exact k2 | exact k46 | exact k90) (s_X1_weightOfAll as2 R hG) mtX1_weightOfAll wiX1_weightOfAll weX1_weightOfAll wlX11_150 (q := 7) dX11_totalWeight_4 rfl rfl rfl rfl rfl rfl rfl (fun r S9 M9 h8 hP => ?_) (fun k S9 M9 hP => (z_no hP.1 rfl).elim)
  obtain ⟨rfl, rfl, h9⟩ := hP
  subst M9
  refine zr_ireturn dX11_totalWeight_7 rfl (z_fit_i _) ?_
  exact ⟨rfl, rfl, rfl⟩
theorem s_X11_preference (Hw : zHw M) (R : zAR M 2 G) (hG : zWF G) {w o : Int} (hw : 0 ≤ w ∧ w < G 0) (ho : 0 ≤ o ∧ o < G 0) : z_Call mX11_preference zF [(1, 1), (0, w), (0, o)] M (zpF 0 (zPrf G w o) M) := by
  refine z_enter (k := 0) rfl rfl rfl ?_
  refine zp_al0 (q := 1) dX11_preference_0 rfl ?_
  refine zp_il1 (q := 2) dX11_preference_1 rfl ?_
  refine zf_callV1 (k1) (s_X11_checkWind Hw R hG hw) mtX11_checkWind wiX11_checkWind weX11_checkWind wlX11_95 (q := 5) dX11_preference_2 rfl rfl rfl rfl rfl rfl rfl (fun r S9 M9 h8 hP => ?_) (fun k S9 M9 hP => (z_no hP.1 rfl).elim)
  obtain ⟨rfl, rfl, h9⟩ := hP
  subst M9
  refine zp_al0 (q := 6) dX11_preference_5 rfl ?_
  refine zp_il2 (q := 7) dX11_preference_6 rfl ?_
  refine zf_callV1 (k1) (s_X11_checkWind Hw R hG ho) mtX11_checkWind wiX11_checkWind weX11_checkWind wlX11_95 (q := 10) dX11_preference_7 rfl rfl rfl rfl rfl rfl rfl (fun r S9 M9 h8 hP => ?_) (fun k S9 M9 hP => (z_no hP.1 rfl).elim)
  obtain ⟨rfl, rfl, h9⟩ := hP
  subst M9
  refine zp_al0 (q := 11) dX11_preference_10 rfl ?_
  refine zf_getG (v := 2) 0 (k1) (Hw.as) rfl fdX11_10 (q := 14) dX11_preference_11 rfl rfl ?_
  refine zp_il1 (q := 15) dX11_preference_14 rfl ?_
  refine zp_il2 (q := 16) dX11_preference_15 rfl ?_
  refine zf_callV2 (by first | assumption | exact k2 | exact k46 | exact k90) (s_X1_weightPreferring as2 R hG) mtX1_weightPreferring wiX1_weightPreferring weX1_weightPreferring wlX11_208 (q := 19) dX11_preference_16 rfl rfl rfl rfl rfl rfl rfl (fun r S9 M9 h8 hP => ?_) (fun k S9 M9 hP => (z_no hP.1 rfl).elim)
  obtain ⟨rfl, rfl, h9⟩ := hP
  subst M9
  refine zr_ireturn dX11_preference_19 rfl (z_fit_i _) ?_
  exact ⟨rfl, rfl, rfl⟩
theorem s_X11_preference_x (Hw : zHw M) (R : zAR M 2 G) (hG : zWF G) {w o : Int} (hw : ¬ (0 ≤ w ∧ w < G 0)) : z_Call mX11_preference zF [(1, 1), (0, w), (0, o)] M (zpF 8 0 M) := by
  refine z_enter (k := 0) rfl rfl rfl ?_
  refine zp_al0 (q := 1) dX11_preference_0 rfl ?_
  refine zp_il1 (q := 2) dX11_preference_1 rfl ?_
  refine zf_callV1 (k1) (s_X11_checkWind_x Hw R hG hw) mtX11_checkWind wiX11_checkWind weX11_checkWind wlX11_95 (q := 5) dX11_preference_2 rfl rfl rfl rfl rfl rfl rfl (fun r S9 M9 h8 hP => absurd (congrArg Prod.fst hP.1) h8) (fun k S9 M9 hP => ?_)
  obtain ⟨h8, rfl, h9⟩ := hP
  subst M9
  cases h8
  exact ⟨rfl, rfl, rfl⟩
theorem s_X11_preference_y (Hw : zHw M) (R : zAR M 2 G) (hG : zWF G) {w o : Int} (hw : 0 ≤ w ∧ w < G 0) (ho : ¬ (0 ≤ o ∧ o < G 0)) : z_Call mX11_preference zF [(1, 1), (0, w), (0, o)] M (zpF 8 0 M) := by
  refine z_enter (k := 0) rfl rfl rfl ?_
  refine zp_al0 (q := 1) dX11_preference_0 rfl ?_
  refine zp_il1 (q := 2) dX11_preference_1 rfl ?_
  refine zf_callV1 (k1) (s_X11_checkWind Hw R hG hw) mtX11_checkWind wiX11_checkWind weX11_checkWind wlX11_95 (q := 5) dX11_preference_2 rfl rfl rfl rfl rfl rfl rfl (fun r S9 M9 h8 hP => ?_) (fun k S9 M9 hP => (z_no hP.1 rfl).elim)
  obtain ⟨rfl, rfl, h9⟩ := hP
  subst M9
  refine zp_al0 (q := 6) dX11_preference_5 rfl ?_
  refine zp_il2 (q := 7) dX11_preference_6 rfl ?_
  refine zf_callV1 (k1) (s_X11_checkWind_x Hw R hG ho) mtX11_checkWind wiX11_checkWind weX11_checkWind wlX11_95 (q := 10) dX11_preference_7 rfl rfl rfl rfl rfl rfl rfl (fun r S9 M9 h8 hP => absurd (congrArg Prod.fst hP.1) h8) (fun k S9 M9 hP => ?_)
  obtain ⟨h8, rfl, h9⟩ := hP
  subst M9
  cases h8
  exact ⟨rfl, rfl, rfl⟩
theorem s_X11_beats (Hw : zHw M) (R : zAR M 2 G) (hG : zWF G) {w o : Int} (hw : 0 ≤ w ∧ w < G 0) (ho : 0 ≤ o ∧ o < G 0) : z_Call mX11_beats zF [(1, 1), (0, w), (0, o)] M (zpF 0 (if zPrf G o w < zPrf G w o then 1 else 0) M) := by
  refine z_enter (k := 0) rfl rfl rfl ?_
  refine zp_al0 (q := 1) dX11_beats_0 rfl ?_
  refine zp_il1 (q := 2) dX11_beats_1 rfl ?_
  refine zf_callV1 (k1) (s_X11_checkWind Hw R hG hw) mtX11_checkWind wiX11_checkWind weX11_checkWind wlX11_95 (q := 5) dX11_beats_2 rfl rfl rfl rfl rfl rfl rfl (fun r S9 M9 h8 hP => ?_) (fun k S9 M9 hP => (z_no hP.1 rfl).elim)
  obtain ⟨rfl, rfl, h9⟩ := hP
  subst M9
  refine zp_al0 (q := 6) dX11_beats_5 rfl ?_
  refine zp_il2 (q := 7) dX11_beats_6 rfl ?_
  refine zf_callV1 (k1) (s_X11_checkWind Hw R hG ho) mtX11_checkWind wiX11_checkWind weX11_checkWind wlX11_95 (q := 10) dX11_beats_7 rfl rfl rfl rfl rfl rfl rfl (fun r S9 M9 h8 hP => ?_) (fun k S9 M9 hP => (z_no hP.1 rfl).elim)
  obtain ⟨rfl, rfl, h9⟩ := hP
  subst M9
  refine zp_al0 (q := 11) dX11_beats_10 rfl ?_
  refine zf_getG (v := 2) 0 (k1) (Hw.as) rfl fdX11_10 (q := 14) dX11_beats_11 rfl rfl ?_
  refine zp_il1 (q := 15) dX11_beats_14 rfl ?_
  refine zp_il2 (q := 16) dX11_beats_15 rfl ?_
  refine zf_callV2 (by first | assumption | exact k2 | exact k46 | exact k90) (s_X1_isStronger as2 R hG) mtX1_isStronger wiX1_isStronger weX1_isStronger wlX11_212 (q := 19) dX11_beats_16 rfl rfl rfl rfl rfl rfl rfl (fun r S9 M9 h8 hP => ?_) (fun k S9 M9 hP => (z_no hP.1 rfl).elim)
  obtain ⟨rfl, rfl, h9⟩ := hP
  subst M9
  refine zr_ireturn dX11_beats_19 rfl (z_fit_z (by split <;> decide)) ?_
  exact ⟨rfl, rfl, rfl⟩
theorem s_X11_beats_x (Hw : zHw M) (R : zAR M 2 G) (hG : zWF G) {w o : Int} (hw : ¬ (0 ≤ w ∧ w < G 0)) : z_Call mX11_beats zF [(1, 1), (0, w), (0, o)] M (zpF 8 0 M) := by
  refine z_enter (k := 0) rfl rfl rfl ?_
  refine zp_al0 (q := 1) dX11_beats_0 rfl ?_
  refine zp_il1 (q := 2) dX11_beats_1 rfl ?_
  refine zf_callV1 (k1) (s_X11_checkWind_x Hw R hG hw) mtX11_checkWind wiX11_checkWind weX11_checkWind wlX11_95 (q := 5) dX11_beats_2 rfl rfl rfl rfl rfl rfl rfl (fun r S9 M9 h8 hP => absurd (congrArg Prod.fst hP.1) h8) (fun k S9 M9 hP => ?_)
  obtain ⟨h8, rfl, h9⟩ := hP
  subst M9
  cases h8
  exact ⟨rfl, rfl, rfl⟩
theorem s_X11_beats_y (Hw : zHw M) (R : zAR M 2 G) (hG : zWF G) {w o : Int} (hw : 0 ≤ w ∧ w < G 0) (ho : ¬ (0 ≤ o ∧ o < G 0)) : z_Call mX11_beats zF [(1, 1), (0, w), (0, o)] M (zpF 8 0 M) := by
  refine z_enter (k := 0) rfl rfl rfl ?_
  refine zp_al0 (q := 1) dX11_beats_0 rfl ?_
  refine zp_il1 (q := 2) dX11_beats_1 rfl ?_
  refine zf_callV1 (k1) (s_X11_checkWind Hw R hG hw) mtX11_checkWind wiX11_checkWind weX11_checkWind wlX11_95 (q := 5) dX11_beats_2 rfl rfl rfl rfl rfl rfl rfl (fun r S9 M9 h8 hP => ?_) (fun k S9 M9 hP => (z_no hP.1 rfl).elim)
  obtain ⟨rfl, rfl, h9⟩ := hP
  subst M9
  refine zp_al0 (q := 6) dX11_beats_5 rfl ?_
  refine zp_il2 (q := 7) dX11_beats_6 rfl ?_
  refine zf_callV1 (k1) (s_X11_checkWind_x Hw R hG ho) mtX11_checkWind wiX11_checkWind weX11_checkWind wlX11_95 (q := 10) dX11_beats_7 rfl rfl rfl rfl rfl rfl rfl (fun r S9 M9 h8 hP => absurd (congrArg Prod.fst hP.1) h8) (fun k S9 M9 hP => ?_)
  obtain ⟨h8, rfl, h9⟩ := hP
  subst M9
  cases h8
  exact ⟨rfl, rfl, rfl⟩
theorem s_X11_victories (Hw : zHw M) (R : zAR M 2 G) (hG : zWF G) {w : Int} (hw : 0 ≤ w ∧ w < G 0) : z_Call mX11_victories zF [(1, 1), (0, w)] M (zpF 0 (zBt G w) M) := by
  refine z_enter (k := 0) rfl rfl rfl ?_
  refine zp_al0 (q := 1) dX11_victories_0 rfl ?_
  refine zp_il1 (q := 2) dX11_victories_1 rfl ?_
  refine zf_callV1 (k1) (s_X11_checkWind Hw R hG hw) mtX11_checkWind wiX11_checkWind weX11_checkWind wlX11_95 (q := 5) dX11_victories_2 rfl rfl rfl rfl rfl rfl rfl (fun r S9 M9 h8 hP => ?_) (fun k S9 M9 hP => (z_no hP.1 rfl).elim)
  obtain ⟨rfl, rfl, h9⟩ := hP
  subst M9
  refine zp_al0 (q := 6) dX11_victories_5 rfl ?_
  refine zf_getG (v := 2) 0 (k1) (Hw.as) rfl fdX11_10 (q := 9) dX11_victories_6 rfl rfl ?_
  refine zp_il1 (q := 10) dX11_victories_9 rfl ?_
  refine zf_callV1 (by first | assumption | exact k2 | exact k46 | exact k90) (s_X1_standingWindsBeatenBy as2 R hG) mtX1_standingWindsBeatenBy wiX1_standingWindsBeatenBy weX1_standingWindsBeatenBy wlX11_216 (q := 13) dX11_victories_10 rfl rfl rfl rfl rfl rfl rfl (fun r S9 M9 h8 hP => ?_) (fun k S9 M9 hP => (z_no hP.1 rfl).elim)
  obtain ⟨rfl, rfl, h9⟩ := hP
  subst M9
  refine zr_ireturn dX11_victories_13 rfl (z_fit_i _) ?_
  exact ⟨rfl, rfl, rfl⟩
theorem s_X11_victories_x (Hw : zHw M) (R : zAR M 2 G) (hG : zWF G) {w : Int} (hw : ¬ (0 ≤ w ∧ w < G 0)) : z_Call mX11_victories zF [(1, 1), (0, w)] M (zpF 8 0 M) := by
  refine z_enter (k := 0) rfl rfl rfl ?_
  refine zp_al0 (q := 1) dX11_victories_0 rfl ?_
  refine zp_il1 (q := 2) dX11_victories_1 rfl ?_
  refine zf_callV1 (k1) (s_X11_checkWind_x Hw R hG hw) mtX11_checkWind wiX11_checkWind weX11_checkWind wlX11_95 (q := 5) dX11_victories_2 rfl rfl rfl rfl rfl rfl rfl (fun r S9 M9 h8 hP => absurd (congrArg Prod.fst hP.1) h8) (fun k S9 M9 hP => ?_)
  obtain ⟨h8, rfl, h9⟩ := hP
  subst M9
  cases h8
  exact ⟨rfl, rfl, rfl⟩
theorem s_X11_scoreOf (Hw : zHw M) (R : zAR M 2 G) (hG : zWF G) {w : Int} (hw : 0 ≤ w ∧ w < G 0) : z_Call mX11_scoreOf zF [(1, 1), (0, w)] M (zpF 0 (zSc G w) M) := by
  refine z_enter (k := 0) rfl rfl rfl ?_
  refine zp_al0 (q := 1) dX11_scoreOf_0 rfl ?_
  refine zp_il1 (q := 2) dX11_scoreOf_1 rfl ?_
  refine zf_callV1 (k1) (s_X11_checkWind Hw R hG hw) mtX11_checkWind wiX11_checkWind weX11_checkWind wlX11_95 (q := 5) dX11_scoreOf_2 rfl rfl rfl rfl rfl rfl rfl (fun r S9 M9 h8 hP => ?_) (fun k S9 M9 hP => (z_no hP.1 rfl).elim)
  obtain ⟨rfl, rfl, h9⟩ := hP
  subst M9
  refine zp_al0 (q := 6) dX11_scoreOf_5 rfl ?_
  refine zf_getG (v := 2) 0 (k1) (Hw.as) rfl fdX11_10 (q := 9) dX11_scoreOf_6 rfl rfl ?_
  refine zp_il1 (q := 10) dX11_scoreOf_9 rfl ?_
  refine zf_callV1 (by first | assumption | exact k2 | exact k46 | exact k90) (s_X1_scoreFor as2 R hG) mtX1_scoreFor wiX1_scoreFor weX1_scoreFor wlX11_225 (q := 13) dX11_scoreOf_10 rfl rfl rfl rfl rfl rfl rfl (fun r S9 M9 h8 hP => ?_) (fun k S9 M9 hP => (z_no hP.1 rfl).elim)
  obtain ⟨rfl, rfl, h9⟩ := hP
  subst M9
  refine zr_ireturn dX11_scoreOf_13 rfl (z_fit_i _) ?_
  exact ⟨rfl, rfl, rfl⟩
theorem s_X11_scoreOf_x (Hw : zHw M) (R : zAR M 2 G) (hG : zWF G) {w : Int} (hw : ¬ (0 ≤ w ∧ w < G 0)) : z_Call mX11_scoreOf zF [(1, 1), (0, w)] M (zpF 8 0 M) := by
  refine z_enter (k := 0) rfl rfl rfl ?_
  refine zp_al0 (q := 1) dX11_scoreOf_0 rfl ?_
  refine zp_il1 (q := 2) dX11_scoreOf_1 rfl ?_
  refine zf_callV1 (k1) (s_X11_checkWind_x Hw R hG hw) mtX11_checkWind wiX11_checkWind weX11_checkWind wlX11_95 (q := 5) dX11_scoreOf_2 rfl rfl rfl rfl rfl rfl rfl (fun r S9 M9 h8 hP => absurd (congrArg Prod.fst hP.1) h8) (fun k S9 M9 hP => ?_)
  obtain ⟨h8, rfl, h9⟩ := hP
  subst M9
  cases h8
  exact ⟨rfl, rfl, rfl⟩
theorem s_X11_championOfPairs (Hw : zHw M) (R : zAR M 2 G) (hG : zWF G) (hc : zCh G ≠ -1) : z_Call mX11_championOfPairs zF [(1, 1)] M (zpF 0 (zCh G) M) := by
  refine z_enter (k := 0) rfl rfl rfl ?_
  refine zp_al0 (q := 1) dX11_championOfPairs_0 rfl ?_
  refine zf_getG (v := 2) 0 (k1) (Hw.as) rfl fdX11_10 (q := 4) dX11_championOfPairs_1 rfl rfl ?_
  refine zf_callV0 (by first | assumption | exact k2 | exact k46 | exact k90) (s_X1_championAmongPairs as2 R hG) mtX1_championAmongPairs wiX1_championAmongPairs weX1_championAmongPairs wlX11_219 (q := 7) dX11_championOfPairs_4 rfl rfl rfl rfl rfl rfl rfl (fun r S9 M9 h8 hP => ?_) (fun k S9 M9 hP => (z_no hP.1 rfl).elim)
  obtain ⟨rfl, rfl, h9⟩ := hP
  subst M9
  refine zp_callS1 (s_X11_found hc) mtX11_found wtX11_found wlX11_147 (q := 10) dX11_championOfPairs_7 rfl rfl rfl rfl rfl (fun r S9 M9 h8 hP => ?_) (fun k S9 M9 hP => (z_no hP.1 rfl).elim)
  obtain ⟨rfl, rfl, h9⟩ := hP
  subst M9
  refine zr_ireturn dX11_championOfPairs_10 rfl (z_fit_i _) ?_
  exact ⟨rfl, rfl, rfl⟩
theorem s_X11_championOfPairs_x (Hw : zHw M) (R : zAR M 2 G) (hG : zWF G) (hc : zCh G = -1) : z_Call mX11_championOfPairs zF [(1, 1)] M (zpF 8 4 M) := by
  refine z_enter (k := 0) rfl rfl rfl ?_
  refine zp_al0 (q := 1) dX11_championOfPairs_0 rfl ?_
  refine zf_getG (v := 2) 0 (k1) (Hw.as) rfl fdX11_10 (q := 4) dX11_championOfPairs_1 rfl rfl ?_
  refine zf_callV0 (by first | assumption | exact k2 | exact k46 | exact k90) (s_X1_championAmongPairs as2 R hG) mtX1_championAmongPairs wiX1_championAmongPairs weX1_championAmongPairs wlX11_219 (q := 7) dX11_championOfPairs_4 rfl rfl rfl rfl rfl rfl rfl (fun r S9 M9 h8 hP => ?_) (fun k S9 M9 hP => (z_no hP.1 rfl).elim)
  obtain ⟨rfl, rfl, h9⟩ := hP
  subst M9
  refine zp_callS1 (s_X11_found_x hc) mtX11_found wtX11_found wlX11_147 (q := 10) dX11_championOfPairs_7 rfl rfl rfl rfl rfl (fun r S9 M9 h8 hP => absurd (congrArg Prod.fst hP.1) h8) (fun k S9 M9 hP => ?_)
  obtain ⟨h8, rfl, h9⟩ := hP
  subst M9
  cases h8
  exact ⟨rfl, rfl, rfl⟩
theorem s_X11_seatCount (Hw : zHw M) (R : zAR M 2 G) (hG : zWF G) : z_Call mX11_seatCount zF [(1, 1)] M (zpF 0 (G 3) M) := by
  refine z_enter (k := 0) rfl rfl rfl ?_
  refine zp_al0 (q := 1) dX11_seatCount_0 rfl ?_
  refine zf_getG (v := 2) 0 (k1) (Hw.as) rfl fdX11_10 (q := 4) dX11_seatCount_1 rfl rfl ?_
  refine zf_getG (v := G 3) 3 (by first | assumption | exact k2 | exact k46 | exact k90) (R.s) rfl fdX11_240 (q := 7) dX11_seatCount_4 rfl rfl ?_
  refine zr_ireturn dX11_seatCount_7 rfl (z_fit_i _) ?_
  exact ⟨rfl, rfl, rfl⟩
theorem s_X11_spinValue (Hw : zHw M) (R : zAR M 2 G) (hG : zWF G) : z_Call mX11_spinValue zF [(1, 1)] M (zpF 0 (G 2) M) := by
  refine z_enter (k := 0) rfl rfl rfl ?_
  refine zp_al0 (q := 1) dX11_spinValue_0 rfl ?_
  refine zf_getG (v := 2) 0 (k1) (Hw.as) rfl fdX11_10 (q := 4) dX11_spinValue_1 rfl rfl ?_
  refine zf_getG (v := G 2) 6 (by first | assumption | exact k2 | exact k46 | exact k90) (R.sp) rfl fdX11_234 (q := 7) dX11_spinValue_4 rfl rfl ?_
  refine zr_ireturn dX11_spinValue_7 rfl (z_fit_i _) ?_
  exact ⟨rfl, rfl, rfl⟩
theorem s_X11_seatAt (Hw : zHw M) (R : zAR M 2 G) (hG : zWF G) {s : Int} (hs : 0 ≤ s ∧ s < G 3) : z_Call mX11_seatAt zF [(1, 1), (0, s)] M (zpF 0 (G (12 + s)) M) := by
  have h5 := R.seat.2 s hs.1 hs.2
  refine z_enter (k := 0) rfl rfl rfl ?_
  refine zp_al0 (q := 1) dX11_seatAt_0 rfl ?_
  refine zf_getG (v := 2) 0 (k1) (Hw.as) rfl fdX11_10 (q := 4) dX11_seatAt_1 rfl rfl ?_
  refine zp_il1 (q := 5) dX11_seatAt_4 rfl ?_
  refine zf_callV1 (by first | assumption | exact k2 | exact k46 | exact k90) (s_X1_windInSeat as2 R hG) mtX1_windInSeat wiX1_windInSeat weX1_windInSeat wlX11_243 (q := 8) dX11_seatAt_5 rfl rfl rfl rfl rfl rfl rfl (fun r S9 M9 h8 hP => ?_) (fun k S9 M9 hP => (z_no hP.1 rfl).elim)
  obtain ⟨rfl, rfl, h9⟩ := hP
  subst M9
  rw [if_pos hs]
  refine zp_callS1 (s_X11_found (by omega)) mtX11_found wtX11_found wlX11_147 (q := 11) dX11_seatAt_8 rfl rfl rfl rfl rfl (fun r S9 M9 h8 hP => ?_) (fun k S9 M9 hP => (z_no hP.1 rfl).elim)
  obtain ⟨rfl, rfl, h9⟩ := hP
  subst M9
  refine zr_ireturn dX11_seatAt_11 rfl (z_fit_i _) ?_
  exact ⟨rfl, rfl, rfl⟩
theorem s_X11_seatAt_x (Hw : zHw M) (R : zAR M 2 G) (hG : zWF G) {s : Int} (hs : ¬ (0 ≤ s ∧ s < G 3)) : z_Call mX11_seatAt zF [(1, 1), (0, s)] M (zpF 8 4 M) := by
  refine z_enter (k := 0) rfl rfl rfl ?_
  refine zp_al0 (q := 1) dX11_seatAt_0 rfl ?_
  refine zf_getG (v := 2) 0 (k1) (Hw.as) rfl fdX11_10 (q := 4) dX11_seatAt_1 rfl rfl ?_
  refine zp_il1 (q := 5) dX11_seatAt_4 rfl ?_
  refine zf_callV1 (by first | assumption | exact k2 | exact k46 | exact k90) (s_X1_windInSeat as2 R hG) mtX1_windInSeat wiX1_windInSeat weX1_windInSeat wlX11_243 (q := 8) dX11_seatAt_5 rfl rfl rfl rfl rfl rfl rfl (fun r S9 M9 h8 hP => ?_) (fun k S9 M9 hP => (z_no hP.1 rfl).elim)
  obtain ⟨rfl, rfl, h9⟩ := hP
  subst M9
  rw [if_neg hs]
  refine zp_callS1 (s_X11_found_x rfl) mtX11_found wtX11_found wlX11_147 (q := 11) dX11_seatAt_8 rfl rfl rfl rfl rfl (fun r S9 M9 h8 hP => absurd (congrArg Prod.fst hP.1) h8) (fun k S9 M9 hP => ?_)
  obtain ⟨h8, rfl, h9⟩ := hP
  subst M9
  cases h8
  exact ⟨rfl, rfl, rfl⟩
theorem s_X11_errorPosition (hx : M 1 10 ≠ -1) : z_Call mX11_errorPosition zF [(1, 1)] M (zpF 0 (M 1 10) M) := by
  refine z_enter (k := 0) rfl rfl rfl ?_
  refine zp_al0 (q := 1) dX11_errorPosition_0 rfl ?_
  refine zf_getG (v := _) 10 (k1) (rfl) rfl fdX11_65 (q := 4) dX11_errorPosition_1 rfl rfl ?_
  refine zp_callS1 (s_X11_found hx) mtX11_found wtX11_found wlX11_147 (q := 7) dX11_errorPosition_4 rfl rfl rfl rfl rfl (fun r S9 M9 h8 hP => ?_) (fun k S9 M9 hP => (z_no hP.1 rfl).elim)
  obtain ⟨rfl, rfl, h9⟩ := hP
  subst M9
  refine zr_ireturn dX11_errorPosition_7 rfl (z_fit_i _) ?_
  exact ⟨rfl, rfl, rfl⟩
theorem s_X11_errorPosition_x (hx : M 1 10 = -1) : z_Call mX11_errorPosition zF [(1, 1)] M (zpF 8 4 M) := by
  refine z_enter (k := 0) rfl rfl rfl ?_
  refine zp_al0 (q := 1) dX11_errorPosition_0 rfl ?_
  refine zf_getG (v := _) 10 (k1) (rfl) rfl fdX11_65 (q := 4) dX11_errorPosition_1 rfl rfl ?_
  refine zp_callS1 (s_X11_found_x hx) mtX11_found wtX11_found wlX11_147 (q := 7) dX11_errorPosition_4 rfl rfl rfl rfl rfl (fun r S9 M9 h8 hP => absurd (congrArg Prod.fst hP.1) h8) (fun k S9 M9 hP => ?_)
  obtain ⟨h8, rfl, h9⟩ := hP
  subst M9
  cases h8
  exact ⟨rfl, rfl, rfl⟩
theorem s_X11_failedCommand (hx : M 1 11 ≠ -1) : z_Call mX11_failedCommand zF [(1, 1)] M (zpF 0 (M 1 11) M) := by
  refine z_enter (k := 0) rfl rfl rfl ?_
  refine zp_al0 (q := 1) dX11_failedCommand_0 rfl ?_
  refine zf_getG (v := _) 11 (k1) (rfl) rfl fdX11_69 (q := 4) dX11_failedCommand_1 rfl rfl ?_
  refine zp_callS1 (s_X11_found hx) mtX11_found wtX11_found wlX11_147 (q := 7) dX11_failedCommand_4 rfl rfl rfl rfl rfl (fun r S9 M9 h8 hP => ?_) (fun k S9 M9 hP => (z_no hP.1 rfl).elim)
  obtain ⟨rfl, rfl, h9⟩ := hP
  subst M9
  refine zr_ireturn dX11_failedCommand_7 rfl (z_fit_i _) ?_
  exact ⟨rfl, rfl, rfl⟩
theorem s_X11_failedCommand_x (hx : M 1 11 = -1) : z_Call mX11_failedCommand zF [(1, 1)] M (zpF 8 4 M) := by
  refine z_enter (k := 0) rfl rfl rfl ?_
  refine zp_al0 (q := 1) dX11_failedCommand_0 rfl ?_
  refine zf_getG (v := _) 11 (k1) (rfl) rfl fdX11_69 (q := 4) dX11_failedCommand_1 rfl rfl ?_
  refine zp_callS1 (s_X11_found_x hx) mtX11_found wtX11_found wlX11_147 (q := 7) dX11_failedCommand_4 rfl rfl rfl rfl rfl (fun r S9 M9 h8 hP => absurd (congrArg Prod.fst hP.1) h8) (fun k S9 M9 hP => ?_)
  obtain ⟨h8, rfl, h9⟩ := hP
  subst M9
  cases h8
  exact ⟨rfl, rfl, rfl⟩
theorem s_X11_lineAt (Hw : zHw M) (Hp : M 511 0 = 512) {i : Int} (hi : 0 ≤ i ∧ i < M 511 1) (hl : M 511 1 ≤ 60) (hc : 0 ≤ M 512 i ∧ M 512 i < 65536) : z_Call mX11_lineAt zF [(1, 1), (0, i)] M (zpF 0 (M 512 i) M) := by
  refine z_enter (k := 0) rfl rfl rfl ?_
  refine zp_il1 (q := 1) dX11_lineAt_0 rfl ?_
  refine zr_if_lt (q := 15) (q2 := 4) dX11_lineAt_1 (by decide) rfl (fun h1 => ?_) (fun h1 => ?_)
  · exact absurd hi (by omega)
  · refine zp_il1 (q := 5) dX11_lineAt_4 rfl ?_
    refine zp_al0 (q := 6) dX11_lineAt_5 rfl ?_
    refine zf_getG (v := 511) 8 (k1) (Hw.li) rfl fdX11_54 (q := 9) dX11_lineAt_6 rfl rfl ?_
    refine zf_getG (v := _) 1 (k511) (rfl) rfl fdX11_256 (q := 12) dX11_lineAt_9 rfl rfl ?_
    refine zr_icmp_lt (q := 26) (q2 := 15) dX11_lineAt_12 (by decide) rfl (fun h12 => ?_) (fun h12 => ?_)
    · refine zp_al0 (q := 27) dX11_lineAt_26 rfl ?_
      refine zf_getG (v := 511) 8 (k1) (Hw.li) rfl fdX11_54 (q := 30) dX11_lineAt_27 rfl rfl ?_
      refine zf_getG (v := 512) 0 (k511) (Hp) rfl fdX11_268 (q := 33) dX11_lineAt_30 rfl rfl ?_
      refine zp_il1 (q := 34) dX11_lineAt_33 rfl ?_
      refine zf_cald (v := _) (k512) (rfl) (q := 35) dX11_lineAt_34 rfl (by omega) (by omega) ?_
      refine zr_ireturn dX11_lineAt_35 rfl (z_fit_c (by omega) (by omega)) ?_
      exact ⟨rfl, rfl, rfl⟩
    · exact absurd hi (by omega)
theorem s_X11_lineAt_x (Hw : zHw M) {i : Int} (hi : ¬ (0 ≤ i ∧ i < M 511 1)) : z_Call mX11_lineAt zF [(1, 1), (0, i)] M (zpF 8 0 M) := by
  refine z_enter (k := 0) rfl rfl rfl ?_
  refine zp_il1 (q := 1) dX11_lineAt_0 rfl ?_
  refine zr_if_lt (q := 15) (q2 := 4) dX11_lineAt_1 (by decide) rfl (fun h1 => ?_) (fun h1 => ?_)
  · refine zr_throwSW (i := 14) th_0 rfl (by decide) rfl rfl dX11_lineAt_15 dX11_lineAt_18 dX11_lineAt_19 dX11_lineAt_22 dX11_lineAt_25 (by decide) rfl (by decide) (by decide) (by decide) ?_
    exact ⟨rfl, rfl, rfl⟩
  · refine zp_il1 (q := 5) dX11_lineAt_4 rfl ?_
    refine zp_al0 (q := 6) dX11_lineAt_5 rfl ?_
    refine zf_getG (v := 511) 8 (k1) (Hw.li) rfl fdX11_54 (q := 9) dX11_lineAt_6 rfl rfl ?_
    refine zf_getG (v := _) 1 (k511) (rfl) rfl fdX11_256 (q := 12) dX11_lineAt_9 rfl rfl ?_
    refine zr_icmp_lt (q := 26) (q2 := 15) dX11_lineAt_12 (by decide) rfl (fun h12 => ?_) (fun h12 => ?_)
    · exact absurd (show 0 ≤ i ∧ i < M 511 1 by omega) hi
    · refine zr_throwSW (i := 14) th_0 rfl (by decide) rfl rfl dX11_lineAt_15 dX11_lineAt_18 dX11_lineAt_19 dX11_lineAt_22 dX11_lineAt_25 (by decide) rfl (by decide) (by decide) (by decide) ?_
      exact ⟨rfl, rfl, rfl⟩
end ZW
