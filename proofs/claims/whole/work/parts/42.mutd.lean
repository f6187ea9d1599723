/-! dep: 40 41 -/
/-! ===== WindElection$Assembly: the rest of what changes it ===== -/
section ZKD
variable {M : zM} {a : Int} {G : Int → Int}
theorem s_X1_extendBallot (ha : zAs a) (R : zAR M a G) (hG : zWF G) {b w : Int} (h0 : 0 ≤ b) (h1 : b < G 1) (hw : 0 ≤ w ∧ w < G 0) (hp : zPl G b w = -1) (h5 : G (20 + 7 * b + 1) < 5) : z_Call mX1_extendBallot zF [(1, a), (0, b), (0, w)] M (zpA (1, -1) a (gRank G b w) M) := by
  have o0 := zAs_0 ha
  have o3 := zAs_3 ha
  have hn0 := hG.n
  have hb := R.h.bl h0 (show b < 20 by omega)
  have ob := zBl_0 ha hb
  have hz := hG.sz h0 h1
  have hb2 := id hb
  unfold zBl at hb2
  refine z_enter (k := 0) rfl rfl rfl ?_
  refine zp_al0 (q := 1) dX1_extendBallot_0 rfl ?_
  refine zp_il1 (q := 2) dX1_extendBallot_1 rfl ?_
  refine zf_callV1 (by first | assumption | exact k2 | exact k46 | exact k90) (s_X1_hasBallot ha R) mtX1_hasBallot wiX1_hasBallot weX1_hasBallot wlX1_75 (q := 5) dX1_extendBallot_2 rfl rfl rfl rfl rfl rfl rfl (fun r S9 M9 h8 hP => ?_) (fun k S9 M9 hP => (z_no hP.1 rfl).elim)
  obtain ⟨rfl, rfl, h9⟩ := hP
  subst M9
  rw [if_pos ⟨h0, h1⟩]
  refine zr_if_ne (q := 12) (q2 := 8) dX1_extendBallot_5 (by decide) rfl (fun h55 => ?_) (fun h55 => ?_)
  · refine zp_al0 (q := 13) dX1_extendBallot_12 rfl ?_
    refine zp_il2 (q := 14) dX1_extendBallot_13 rfl ?_
    refine zf_callV1 (by first | assumption | exact k2 | exact k46 | exact k90) (s_X1_hasWind ha R) mtX1_hasWind wiX1_hasWind weX1_hasWind wlX1_52 (q := 17) dX1_extendBallot_14 rfl rfl rfl rfl rfl rfl rfl (fun r S9 M9 h8 hP => ?_) (fun k S9 M9 hP => (z_no hP.1 rfl).elim)
    obtain ⟨rfl, rfl, h9⟩ := hP
    subst M9
    rw [if_pos hw]
    refine zr_if_ne (q := 24) (q2 := 20) dX1_extendBallot_17 (by decide) rfl (fun h17 => ?_) (fun h17 => ?_)
    · refine zp_al0 (q := 25) dX1_extendBallot_24 rfl ?_
      refine zf_getG (v := a + 3) 5 (by first | assumption | exact k2 | exact k46 | exact k90) (R.h.p3) rfl fdX1_31 (q := 28) dX1_extendBallot_25 rfl rfl ?_
      refine zp_il1 (q := 29) dX1_extendBallot_28 rfl ?_
      refine zf_aald (v := _) (by first | assumption | exact k518 | exact k519 | exact k520 | exact k521 | exact k522 | exact k523 | exact k524 | exact k525 | exact k526 | exact k527 | exact k528 | exact k510 | exact k512 | exact k515 | exact k516 | exact k507 | exact k509 | exact k135 | exact k489 | exact k529 | exact k530) (rfl) (by decide) (q := 30) dX1_extendBallot_29 rfl (by omega) (by omega) ?_
      refine zp_il2 (q := 31) dX1_extendBallot_30 rfl ?_
      refine zf_callV1 (by assumption) (s_placeOf ha R hG h0 h1) mtX2_placeOf wiX2_placeOf weX2_placeOf wlX1_81 (q := 34) dX1_extendBallot_31 rfl rfl rfl rfl rfl rfl rfl (fun r S9 M9 h8 hP => ?_) (fun k S9 M9 hP => (z_no hP.1 rfl).elim)
      obtain ⟨rfl, rfl, h9⟩ := hP
      subst M9
      refine zr_iconst (q := 35) dX1_extendBallot_34 rfl (z_in_of rfl) ?_
      refine zr_icmp_eq (q := 42) (q2 := 38) dX1_extendBallot_35 (by decide) rfl (fun h35 => ?_) (fun h35 => ?_)
      · refine zp_al0 (q := 43) dX1_extendBallot_42 rfl ?_
        refine zf_getG (v := a + 3) 5 (by first | assumption | exact k2 | exact k46 | exact k90) (R.h.p3) rfl fdX1_31 (q := 46) dX1_extendBallot_43 rfl rfl ?_
        refine zp_il1 (q := 47) dX1_extendBallot_46 rfl ?_
        refine zf_aald (v := _) (by first | assumption | exact k518 | exact k519 | exact k520 | exact k521 | exact k522 | exact k523 | exact k524 | exact k525 | exact k526 | exact k527 | exact k528 | exact k510 | exact k512 | exact k515 | exact k516 | exact k507 | exact k509 | exact k135 | exact k489 | exact k529 | exact k530) (rfl) (by decide) (q := 48) dX1_extendBallot_47 rfl (by omega) (by omega) ?_
        refine zp_il2 (q := 49) dX1_extendBallot_48 rfl ?_
        refine zf_callV1 (by assumption) (s_X2_append ha hb (R.h.bp hb) (R.bn h0 h1) (by omega) h5) mtX2_append wiX2_append weX2_append wlX1_88 (q := 52) dX1_extendBallot_49 rfl rfl rfl rfl rfl rfl rfl (fun r S9 M9 h8 hP => ?_) (fun k S9 M9 hP => (z_no hP.1 rfl).elim)
        obtain ⟨rfl, rfl, h9⟩ := hP
        subst M9
        refine zr_if_eq (q := 61) (q2 := 55) dX1_extendBallot_52 (by decide) rfl (fun h52 => ?_) (fun h52 => ?_)
        · exact absurd h52 (by decide)
        · refine zr_gets (v := (1, -1)) (Cn := "WindElection$Fault") (n := "NONE") (d := "LWindElection$Fault;") (fun C s h => zs_F 0 (by decide) h) (fun _ => z_in_of rfl) (z_all_in (i := 435) (by decide +kernel) (by decide +kernel)) dX1_extendBallot_55 rfl ?_
          refine zr_goto (q := 64) dX1_extendBallot_58 (by decide) ?_
          refine zr_areturn dX1_extendBallot_64 rfl (Or.inl ⟨_, rfl⟩) ?_
          generalize hM4 : z_up (z_up M (M (a + 3) b + 1) (G (20 + 7 * b + 1)) w) (M (a + 3) b) 1 (G (20 + 7 * b + 1) + 1) = M4
          have f1 : ∀ z, z ≠ M (a + 3) b → z ≠ M (a + 3) b + 1 → M4 z = M z := fun z z2 z3 => by rw [← hM4, z_up_ne z2, z_up_ne z3]
          have e3 := f1 (a + 3) (by omega) (by omega)
          have ea := f1 a (by omega) (by omega)
          have hp : zHa M4 a := ⟨by rw [ea]; exact R.h.p1, by rw [ea]; exact R.h.p2, by rw [ea]; exact R.h.p3, fun i i0 i1 => by rw [e3]; exact R.h.bl i0 i1, fun i j i0 i1 j0 j1 e => by rw [e3] at e; exact R.h.inj i0 i1 j0 j1 e, fun c hc => by
            by_cases ec : c = M (a + 3) b
            · rw [ec, ← hM4, z_up_sl (by decide), z_up_ne (by omega)]
              exact R.h.bp hb
            · have hc2 := id hc
              unfold zBl at hc2
              rw [f1 c ec (by omega)]
              exact R.h.bp hc, fun w w0 w1 => by rw [f1 (a + 1) (by omega) (by omega)]; exact R.h.z1 w0 w1⟩
          have e1 : gRank G b w 1 = G 1 := by unfold gRank zSet; omega
          refine ⟨rfl, rfl, R.bal hG hp (fun j j0 j1 j2 => by unfold gRank zSet; omega) (by rw [ea]) (by rw [ea]) (by rw [ea]) (f1 _ (by omega) (by omega)) (f1 _ (by omega) (by omega)) (by rw [ea, e1]; exact R.n) (fun i i0 i1 => ?_), fun z hz => f1 z (by omega) (by omega)⟩
          rw [e1] at i1
          have hz2 := hG.sz i0 i1
          by_cases ei : i = b
          · subst ei
            have g0 : gRank G i w (20 + 7 * i) = G (20 + 7 * i) := by unfold gRank zSet; omega
            have g1 : gRank G i w (20 + 7 * i + 1) = G (20 + 7 * i + 1) + 1 := by unfold gRank zSet; omega
            rw [e3, g0, g1]
            refine ⟨by rw [← hM4, z_up_sl (by decide), z_up_ne (by omega)]; exact R.bw i0 i1, by rw [← hM4, z_up_eq], fun j j0 j1 => ?_⟩
            rw [← hM4, z_up_ne (by omega)]
            by_cases ej : j = G (20 + 7 * i + 1)
            · have g2 : gRank G i w (20 + 7 * i + 2 + j) = w := by rw [ej]; unfold gRank zSet; omega
              rw [g2, ej, z_up_eq]
            · have g2 : gRank G i w (20 + 7 * i + 2 + j) = G (20 + 7 * i + 2 + j) := by unfold gRank zSet; omega
              rw [g2, z_up_sl ej]
              exact R.bj i0 i1 j j0 (by omega)
          · have n1 := fun e => ei (R.h.inj i0 (by omega) h0 (by omega) e)
            have n2 := R.h.up hb i0 (by omega) n1
            have g9 : ∀ k, 0 ≤ k → k < 7 → gRank G b w (20 + 7 * i + k) = G (20 + 7 * i + k) := fun k k0 k1 => by unfold gRank zSet; omega
            have g0 := g9 0 (by omega) (by omega)
            rw [Int.add_zero] at g0
            rw [e3, g0, g9 1 (by omega) (by omega), f1 _ n1 n2.1, f1 _ n2.2.1 n2.2.2]
            refine ⟨R.bw i0 i1, R.bn i0 i1, fun j j0 j1 => ?_⟩
            rw [Int.add_assoc (20 + 7 * i) 2 j, g9 (2 + j) (by omega) (by omega), ← Int.add_assoc (20 + 7 * i) 2 j]
            exact R.bj i0 i1 j j0 j1
      · exact absurd hp h35
    · exact absurd (by decide) h17
  · exact absurd (by decide) h55
theorem s_X1_extendBallot_x (ha : zAs a) (R : zAR M a G) (hG : zWF G) {b w : Int} (h0 : ¬ (0 ≤ b ∧ b < G 1)) : z_Call mX1_extendBallot zF [(1, a), (0, b), (0, w)] M (zpF 1 (-3) M) := by
  have o0 := zAs_0 ha
  refine z_enter (k := 0) rfl rfl rfl ?_
  refine zp_al0 (q := 1) dX1_extendBallot_0 rfl ?_
  refine zp_il1 (q := 2) dX1_extendBallot_1 rfl ?_
  refine zf_callV1 (by first | assumption | exact k2 | exact k46 | exact k90) (s_X1_hasBallot ha R) mtX1_hasBallot wiX1_hasBallot weX1_hasBallot wlX1_75 (q := 5) dX1_extendBallot_2 rfl rfl rfl rfl rfl rfl rfl (fun r S9 M9 h8 hP => ?_) (fun k S9 M9 hP => (z_no hP.1 rfl).elim)
  obtain ⟨rfl, rfl, h9⟩ := hP
  subst M9
  rw [if_neg h0]
  refine zr_if_ne (q := 12) (q2 := 8) dX1_extendBallot_5 (by decide) rfl (fun h5 => ?_) (fun h5 => ?_)
  · exact absurd rfl h5
  · refine zr_gets (v := (1, -3)) (Cn := "WindElection$Fault") (n := "NO_SUCH_BALLOT") (d := "LWindElection$Fault;") (fun C s h => zs_F 2 (by decide) h) (fun _ => z_in_of rfl) (z_all_in (i := 773) (by decide +kernel) (by decide +kernel)) dX1_extendBallot_8 rfl ?_
    refine zr_areturn dX1_extendBallot_11 rfl (Or.inl ⟨_, rfl⟩) ?_
    exact ⟨rfl, rfl, rfl⟩
theorem s_X1_extendBallot_y (ha : zAs a) (R : zAR M a G) (hG : zWF G) {b w : Int} (h0 : 0 ≤ b ∧ b < G 1) (hw : ¬ (0 ≤ w ∧ w < G 0)) : z_Call mX1_extendBallot zF [(1, a), (0, b), (0, w)] M (zpF 1 (-2) M) := by
  have o0 := zAs_0 ha
  refine z_enter (k := 0) rfl rfl rfl ?_
  refine zp_al0 (q := 1) dX1_extendBallot_0 rfl ?_
  refine zp_il1 (q := 2) dX1_extendBallot_1 rfl ?_
  refine zf_callV1 (by first | assumption | exact k2 | exact k46 | exact k90) (s_X1_hasBallot ha R) mtX1_hasBallot wiX1_hasBallot weX1_hasBallot wlX1_75 (q := 5) dX1_extendBallot_2 rfl rfl rfl rfl rfl rfl rfl (fun r S9 M9 h8 hP => ?_) (fun k S9 M9 hP => (z_no hP.1 rfl).elim)
  obtain ⟨rfl, rfl, h9⟩ := hP
  subst M9
  rw [if_pos h0]
  refine zr_if_ne (q := 12) (q2 := 8) dX1_extendBallot_5 (by decide) rfl (fun h5 => ?_) (fun h5 => ?_)
  · refine zp_al0 (q := 13) dX1_extendBallot_12 rfl ?_
    refine zp_il2 (q := 14) dX1_extendBallot_13 rfl ?_
    refine zf_callV1 (by first | assumption | exact k2 | exact k46 | exact k90) (s_X1_hasWind ha R) mtX1_hasWind wiX1_hasWind weX1_hasWind wlX1_52 (q := 17) dX1_extendBallot_14 rfl rfl rfl rfl rfl rfl rfl (fun r S9 M9 h8 hP => ?_) (fun k S9 M9 hP => (z_no hP.1 rfl).elim)
    obtain ⟨rfl, rfl, h9⟩ := hP
    subst M9
    rw [if_neg hw]
    refine zr_if_ne (q := 24) (q2 := 20) dX1_extendBallot_17 (by decide) rfl (fun h17 => ?_) (fun h17 => ?_)
    · exact absurd rfl h17
    · refine zr_gets (v := (1, -2)) (Cn := "WindElection$Fault") (n := "NO_SUCH_WIND") (d := "LWindElection$Fault;") (fun C s h => zs_F 1 (by decide) h) (fun _ => z_in_of rfl) (z_all_in (i := 712) (by decide +kernel) (by decide +kernel)) dX1_extendBallot_20 rfl ?_
      refine zr_areturn dX1_extendBallot_23 rfl (Or.inl ⟨_, rfl⟩) ?_
      exact ⟨rfl, rfl, rfl⟩
  · exact absurd (by decide) h5
theorem s_X1_extendBallot_z (ha : zAs a) (R : zAR M a G) (hG : zWF G) {b w : Int} (h0 : 0 ≤ b ∧ b < G 1) (hw : 0 ≤ w ∧ w < G 0) (hp : zPl G b w ≠ -1) : z_Call mX1_extendBallot zF [(1, a), (0, b), (0, w)] M (zpF 1 (-5) M) := by
  have o0 := zAs_0 ha
  have o3 := zAs_3 ha
  have hn0 := hG.n
  have hb := R.h.bl h0.1 (show b < 20 by omega)
  have ob := zBl_0 ha hb
  refine z_enter (k := 0) rfl rfl rfl ?_
  refine zp_al0 (q := 1) dX1_extendBallot_0 rfl ?_
  refine zp_il1 (q := 2) dX1_extendBallot_1 rfl ?_
  refine zf_callV1 (by first | assumption | exact k2 | exact k46 | exact k90) (s_X1_hasBallot ha R) mtX1_hasBallot wiX1_hasBallot weX1_hasBallot wlX1_75 (q := 5) dX1_extendBallot_2 rfl rfl rfl rfl rfl rfl rfl (fun r S9 M9 h8 hP => ?_) (fun k S9 M9 hP => (z_no hP.1 rfl).elim)
  obtain ⟨rfl, rfl, h9⟩ := hP
  subst M9
  rw [if_pos h0]
  refine zr_if_ne (q := 12) (q2 := 8) dX1_extendBallot_5 (by decide) rfl (fun h5 => ?_) (fun h5 => ?_)
  · refine zp_al0 (q := 13) dX1_extendBallot_12 rfl ?_
    refine zp_il2 (q := 14) dX1_extendBallot_13 rfl ?_
    refine zf_callV1 (by first | assumption | exact k2 | exact k46 | exact k90) (s_X1_hasWind ha R) mtX1_hasWind wiX1_hasWind weX1_hasWind wlX1_52 (q := 17) dX1_extendBallot_14 rfl rfl rfl rfl rfl rfl rfl (fun r S9 M9 h8 hP => ?_) (fun k S9 M9 hP => (z_no hP.1 rfl).elim)
    obtain ⟨rfl, rfl, h9⟩ := hP
    subst M9
    rw [if_pos hw]
    refine zr_if_ne (q := 24) (q2 := 20) dX1_extendBallot_17 (by decide) rfl (fun h17 => ?_) (fun h17 => ?_)
    · refine zp_al0 (q := 25) dX1_extendBallot_24 rfl ?_
      refine zf_getG (v := a + 3) 5 (by first | assumption | exact k2 | exact k46 | exact k90) (R.h.p3) rfl fdX1_31 (q := 28) dX1_extendBallot_25 rfl rfl ?_
      refine zp_il1 (q := 29) dX1_extendBallot_28 rfl ?_
      refine zf_aald (v := _) (by first | assumption | exact k518 | exact k519 | exact k520 | exact k521 | exact k522 | exact k523 | exact k524 | exact k525 | exact k526 | exact k527 | exact k528 | exact k510 | exact k512 | exact k515 | exact k516 | exact k507 | exact k509 | exact k135 | exact k489 | exact k529 | exact k530) (rfl) (by decide) (q := 30) dX1_extendBallot_29 rfl (by omega) (by omega) ?_
      refine zp_il2 (q := 31) dX1_extendBallot_30 rfl ?_
      refine zf_callV1 (by assumption) (s_placeOf ha R hG h0.1 h0.2) mtX2_placeOf wiX2_placeOf weX2_placeOf wlX1_81 (q := 34) dX1_extendBallot_31 rfl rfl rfl rfl rfl rfl rfl (fun r S9 M9 h8 hP => ?_) (fun k S9 M9 hP => (z_no hP.1 rfl).elim)
      obtain ⟨rfl, rfl, h9⟩ := hP
      subst M9
      refine zr_iconst (q := 35) dX1_extendBallot_34 rfl (z_in_of rfl) ?_
      refine zr_icmp_eq (q := 42) (q2 := 38) dX1_extendBallot_35 (by decide) rfl (fun h35 => ?_) (fun h35 => ?_)
      · exact absurd h35 hp
      · refine zr_gets (v := (1, -5)) (Cn := "WindElection$Fault") (n := "RANKED_ALREADY") (d := "LWindElection$Fault;") (fun C s h => zs_F 4 (by decide) h) (fun _ => z_in_of rfl) (z_all_in (i := 776) (by decide +kernel) (by decide +kernel)) dX1_extendBallot_38 rfl ?_
        refine zr_areturn dX1_extendBallot_41 rfl (Or.inl ⟨_, rfl⟩) ?_
        exact ⟨rfl, rfl, rfl⟩
    · exact absurd (by decide) h17
  · exact absurd (by decide) h5
theorem s_X1_extendBallot_u (ha : zAs a) (R : zAR M a G) (hG : zWF G) {b w : Int} (h0 : 0 ≤ b ∧ b < G 1) (hw : 0 ≤ w ∧ w < G 0) (hp : zPl G b w = -1) (h5 : ¬ G (20 + 7 * b + 1) < 5) : z_Call mX1_extendBallot zF [(1, a), (0, b), (0, w)] M (zpF 1 (-8) M) := by
  have o0 := zAs_0 ha
  have o3 := zAs_3 ha
  have hn0 := hG.n
  have hb := R.h.bl h0.1 (show b < 20 by omega)
  have ob := zBl_0 ha hb
  refine z_enter (k := 0) rfl rfl rfl ?_
  refine zp_al0 (q := 1) dX1_extendBallot_0 rfl ?_
  refine zp_il1 (q := 2) dX1_extendBallot_1 rfl ?_
  refine zf_callV1 (by first | assumption | exact k2 | exact k46 | exact k90) (s_X1_hasBallot ha R) mtX1_hasBallot wiX1_hasBallot weX1_hasBallot wlX1_75 (q := 5) dX1_extendBallot_2 rfl rfl rfl rfl rfl rfl rfl (fun r S9 M9 h8 hP => ?_) (fun k S9 M9 hP => (z_no hP.1 rfl).elim)
  obtain ⟨rfl, rfl, h9⟩ := hP
  subst M9
  rw [if_pos h0]
  refine zr_if_ne (q := 12) (q2 := 8) dX1_extendBallot_5 (by decide) rfl (fun h55 => ?_) (fun h55 => ?_)
  · refine zp_al0 (q := 13) dX1_extendBallot_12 rfl ?_
    refine zp_il2 (q := 14) dX1_extendBallot_13 rfl ?_
    refine zf_callV1 (by first | assumption | exact k2 | exact k46 | exact k90) (s_X1_hasWind ha R) mtX1_hasWind wiX1_hasWind weX1_hasWind wlX1_52 (q := 17) dX1_extendBallot_14 rfl rfl rfl rfl rfl rfl rfl (fun r S9 M9 h8 hP => ?_) (fun k S9 M9 hP => (z_no hP.1 rfl).elim)
    obtain ⟨rfl, rfl, h9⟩ := hP
    subst M9
    rw [if_pos hw]
    refine zr_if_ne (q := 24) (q2 := 20) dX1_extendBallot_17 (by decide) rfl (fun h17 => ?_) (fun h17 => ?_)
    · refine zp_al0 (q := 25) dX1_extendBallot_24 rfl ?_
      refine zf_getG (v := a + 3) 5 (by first | assumption | exact k2 | exact k46 | exact k90) (R.h.p3) rfl fdX1_31 (q := 28) dX1_extendBallot_25 rfl rfl ?_
      refine zp_il1 (q := 29) dX1_extendBallot_28 rfl ?_
      refine zf_aald (v := _) (by first | assumption | exact k518 | exact k519 | exact k520 | exact k521 | exact k522 | exact k523 | exact k524 | exact k525 | exact k526 | exact k527 | exact k528 | exact k510 | exact k512 | exact k515 | exact k516 | exact k507 | exact k509 | exact k135 | exact k489 | exact k529 | exact k530) (rfl) (by decide) (q := 30) dX1_extendBallot_29 rfl (by omega) (by omega) ?_
      refine zp_il2 (q := 31) dX1_extendBallot_30 rfl ?_
      refine zf_callV1 (by assumption) (s_placeOf ha R hG h0.1 h0.2) mtX2_placeOf wiX2_placeOf weX2_placeOf wlX1_81 (q := 34) dX1_extendBallot_31 rfl rfl rfl rfl rfl rfl rfl (fun r S9 M9 h8 hP => ?_) (fun k S9 M9 hP => (z_no hP.1 rfl).elim)
      obtain ⟨rfl, rfl, h9⟩ := hP
      subst M9
      refine zr_iconst (q := 35) dX1_extendBallot_34 rfl (z_in_of rfl) ?_
      refine zr_icmp_eq (q := 42) (q2 := 38) dX1_extendBallot_35 (by decide) rfl (fun h35 => ?_) (fun h35 => ?_)
      · refine zp_al0 (q := 43) dX1_extendBallot_42 rfl ?_
        refine zf_getG (v := a + 3) 5 (by first | assumption | exact k2 | exact k46 | exact k90) (R.h.p3) rfl fdX1_31 (q := 46) dX1_extendBallot_43 rfl rfl ?_
        refine zp_il1 (q := 47) dX1_extendBallot_46 rfl ?_
        refine zf_aald (v := _) (by first | assumption | exact k518 | exact k519 | exact k520 | exact k521 | exact k522 | exact k523 | exact k524 | exact k525 | exact k526 | exact k527 | exact k528 | exact k510 | exact k512 | exact k515 | exact k516 | exact k507 | exact k509 | exact k135 | exact k489 | exact k529 | exact k530) (rfl) (by decide) (q := 48) dX1_extendBallot_47 rfl (by omega) (by omega) ?_
        refine zp_il2 (q := 49) dX1_extendBallot_48 rfl ?_
        refine zf_callV1 (by assumption) (s_X2_append_x ha hb (R.bn h0.1 h0.2) h5) mtX2_append wiX2_append weX2_append wlX1_88 (q := 52) dX1_extendBallot_49 rfl rfl rfl rfl rfl rfl rfl (fun r S9 M9 h8 hP => ?_) (fun k S9 M9 hP => (z_no hP.1 rfl).elim)
        obtain ⟨rfl, rfl, h9⟩ := hP
        subst M9
        refine zr_if_eq (q := 61) (q2 := 55) dX1_extendBallot_52 (by decide) rfl (fun h52 => ?_) (fun h52 => ?_)
        · refine zr_gets (v := (1, -8)) (Cn := "WindElection$Fault") (n := "TOO_MANY_RANKS") (d := "LWindElection$Fault;") (fun C s h => zs_F 7 (by decide) h) (fun _ => z_in_of rfl) (z_all_in (i := 782) (by decide +kernel) (by decide +kernel)) dX1_extendBallot_61 rfl ?_
          refine zr_areturn dX1_extendBallot_64 rfl (Or.inl ⟨_, rfl⟩) ?_
          exact ⟨rfl, rfl, rfl⟩
        · exact absurd rfl h52
      · exact absurd hp h35
    · exact absurd (by decide) h17
  · exact absurd (by decide) h55
theorem s_X1_reweigh (ha : zAs a) (R : zAR M a G) (hG : zWF G) {b x : Int} (h0 : 0 ≤ b) (h1 : b < G 1) (hx : 1 ≤ x ∧ x ≤ 99) : z_Call mX1_reweigh zF [(1, a), (0, b), (0, x)] M (zpA (1, -1) a (gRec G b x) M) := by
  have o0 := zAs_0 ha
  have o3 := zAs_3 ha
  have hn0 := hG.n
  have hb := R.h.bl h0 (show b < 20 by omega)
  have ob := zBl_0 ha hb
  have hb2 := id hb
  unfold zBl at hb2
  refine z_enter (k := 0) rfl rfl rfl ?_
  refine zp_al0 (q := 1) dX1_reweigh_0 rfl ?_
  refine zp_il1 (q := 2) dX1_reweigh_1 rfl ?_
  refine zf_callV1 (by first | assumption | exact k2 | exact k46 | exact k90) (s_X1_hasBallot ha R) mtX1_hasBallot wiX1_hasBallot weX1_hasBallot wlX1_75 (q := 5) dX1_reweigh_2 rfl rfl rfl rfl rfl rfl rfl (fun r S9 M9 h8 hP => ?_) (fun k S9 M9 hP => (z_no hP.1 rfl).elim)
  obtain ⟨rfl, rfl, h9⟩ := hP
  subst M9
  rw [if_pos ⟨h0, h1⟩]
  refine zr_if_ne (q := 12) (q2 := 8) dX1_reweigh_5 (by decide) rfl (fun h5 => ?_) (fun h5 => ?_)
  · refine zp_il2 (q := 13) dX1_reweigh_12 rfl ?_
    refine zp_callS1 (s_X1_isWeight) mtX1_isWeight wtX1_isWeight wlX1_62 (q := 16) dX1_reweigh_13 rfl rfl rfl rfl rfl (fun r S9 M9 h8 hP => ?_) (fun k S9 M9 hP => (z_no hP.1 rfl).elim)
    obtain ⟨rfl, rfl, h9⟩ := hP
    subst M9
    rw [if_pos hx]
    refine zr_if_ne (q := 23) (q2 := 19) dX1_reweigh_16 (by decide) rfl (fun h16 => ?_) (fun h16 => ?_)
    · refine zp_al0 (q := 24) dX1_reweigh_23 rfl ?_
      refine zf_getG (v := a + 3) 5 (by first | assumption | exact k2 | exact k46 | exact k90) (R.h.p3) rfl fdX1_31 (q := 27) dX1_reweigh_24 rfl rfl ?_
      refine zp_il1 (q := 28) dX1_reweigh_27 rfl ?_
      refine zf_aald (v := _) (by first | assumption | exact k518 | exact k519 | exact k520 | exact k521 | exact k522 | exact k523 | exact k524 | exact k525 | exact k526 | exact k527 | exact k528 | exact k510 | exact k512 | exact k515 | exact k516 | exact k507 | exact k509 | exact k135 | exact k489 | exact k529 | exact k530) (rfl) (by decide) (q := 29) dX1_reweigh_28 rfl (by omega) (by omega) ?_
      refine zp_il2 (q := 30) dX1_reweigh_29 rfl ?_
      refine zf_putG 0 (by assumption) rfl fpX1_94 (q := 33) dX1_reweigh_30 rfl rfl (by decide) (z_fit_i _) ?_
      refine zr_gets (v := (1, -1)) (Cn := "WindElection$Fault") (n := "NONE") (d := "LWindElection$Fault;") (fun C s h => zs_F 0 (by decide) h) (fun _ => z_in_of rfl) (z_all_in (i := 435) (by decide +kernel) (by decide +kernel)) dX1_reweigh_33 rfl ?_
      refine zr_areturn dX1_reweigh_36 rfl (Or.inl ⟨_, rfl⟩) ?_
      generalize hM4 : z_up M (M (a + 3) b) 0 x = M4
      have f1 : ∀ z, z ≠ M (a + 3) b → M4 z = M z := fun z z2 => by rw [← hM4, z_up_ne z2]
      have e3 := f1 (a + 3) (by omega)
      have ea := f1 a (by omega)
      have hp : zHa M4 a := ⟨by rw [ea]; exact R.h.p1, by rw [ea]; exact R.h.p2, by rw [ea]; exact R.h.p3, fun i i0 i1 => by rw [e3]; exact R.h.bl i0 i1, fun i j i0 i1 j0 j1 e => by rw [e3] at e; exact R.h.inj i0 i1 j0 j1 e, fun c hc => by
        by_cases ec : c = M (a + 3) b
        · rw [ec, ← hM4, z_up_sl (by decide)]
          exact R.h.bp hb
        · rw [f1 c ec]
          exact R.h.bp hc, fun w w0 w1 => by rw [f1 (a + 1) (by omega)]; exact R.h.z1 w0 w1⟩
      have e1 : gRec G b x 1 = G 1 := by unfold gRec zSet; omega
      refine ⟨rfl, rfl, R.bal hG hp (fun j j0 j1 j2 => by unfold gRec zSet; omega) (by rw [ea]) (by rw [ea]) (by rw [ea]) (f1 _ (by omega)) (f1 _ (by omega)) (by rw [ea, e1]; exact R.n) (fun i i0 i1 => ?_), fun z hz => f1 z (by omega)⟩
      rw [e1] at i1
      have hz2 := hG.sz i0 i1
      have g9 : ∀ k, 1 ≤ k → k < 7 → gRec G b x (20 + 7 * i + k) = G (20 + 7 * i + k) := fun k k0 k1 => by unfold gRec zSet; omega
      have g0 : gRec G b x (20 + 7 * i) = if i = b then x else G (20 + 7 * i) := by unfold gRec zSet; omega
      have n3 := R.h.bl i0 (show i < 20 by omega)
      unfold zBl at n3
      rw [e3, g0, g9 1 (by omega) (by omega), f1 (M (a + 3) i + 1) (by omega)]
      refine ⟨?_, ?_, fun j j0 j1 => ?_⟩
      · by_cases ei : i = b
        · rw [if_pos ei, ei, ← hM4, z_up_eq]
        · rw [if_neg ei, f1 _ (fun e => ei (R.h.inj i0 (by omega) h0 (by omega) e))]
          exact R.bw i0 i1
      · rw [← hM4]
        by_cases ei : i = b
        · rw [ei, z_up_sl (by decide)]
          exact R.bn h0 h1
        · rw [z_up_ne (fun e => ei (R.h.inj i0 (by omega) h0 (by omega) e))]
          exact R.bn i0 i1
      · rw [Int.add_assoc (20 + 7 * i) 2 j, g9 (2 + j) (by omega) (by omega), ← Int.add_assoc (20 + 7 * i) 2 j]
        exact R.bj i0 i1 j j0 j1
    · exact absurd (by decide) h16
  · exact absurd (by decide) h5
theorem s_X1_reweigh_x (ha : zAs a) (R : zAR M a G) (hG : zWF G) {b x : Int} (h0 : ¬ (0 ≤ b ∧ b < G 1)) : z_Call mX1_reweigh zF [(1, a), (0, b), (0, x)] M (zpF 1 (-3) M) := by
  have o0 := zAs_0 ha
  refine z_enter (k := 0) rfl rfl rfl ?_
  refine zp_al0 (q := 1) dX1_reweigh_0 rfl ?_
  refine zp_il1 (q := 2) dX1_reweigh_1 rfl ?_
  refine zf_callV1 (by first | assumption | exact k2 | exact k46 | exact k90) (s_X1_hasBallot ha R) mtX1_hasBallot wiX1_hasBallot weX1_hasBallot wlX1_75 (q := 5) dX1_reweigh_2 rfl rfl rfl rfl rfl rfl rfl (fun r S9 M9 h8 hP => ?_) (fun k S9 M9 hP => (z_no hP.1 rfl).elim)
  obtain ⟨rfl, rfl, h9⟩ := hP
  subst M9
  rw [if_neg h0]
  refine zr_if_ne (q := 12) (q2 := 8) dX1_reweigh_5 (by decide) rfl (fun h5 => ?_) (fun h5 => ?_)
  · exact absurd rfl h5
  · refine zr_gets (v := (1, -3)) (Cn := "WindElection$Fault") (n := "NO_SUCH_BALLOT") (d := "LWindElection$Fault;") (fun C s h => zs_F 2 (by decide) h) (fun _ => z_in_of rfl) (z_all_in (i := 773) (by decide +kernel) (by decide +kernel)) dX1_reweigh_8 rfl ?_
    refine zr_areturn dX1_reweigh_11 rfl (Or.inl ⟨_, rfl⟩) ?_
    exact ⟨rfl, rfl, rfl⟩
theorem s_X1_reweigh_y (ha : zAs a) (R : zAR M a G) (hG : zWF G) {b x : Int} (h0 : 0 ≤ b ∧ b < G 1) (hx : ¬ (1 ≤ x ∧ x ≤ 99)) : z_Call mX1_reweigh zF [(1, a), (0, b), (0, x)] M (zpF 1 (-4) M) := by
  have o0 := zAs_0 ha
  refine z_enter (k := 0) rfl rfl rfl ?_
  refine zp_al0 (q := 1) dX1_reweigh_0 rfl ?_
  refine zp_il1 (q := 2) dX1_reweigh_1 rfl ?_
  refine zf_callV1 (by first | assumption | exact k2 | exact k46 | exact k90) (s_X1_hasBallot ha R) mtX1_hasBallot wiX1_hasBallot weX1_hasBallot wlX1_75 (q := 5) dX1_reweigh_2 rfl rfl rfl rfl rfl rfl rfl (fun r S9 M9 h8 hP => ?_) (fun k S9 M9 hP => (z_no hP.1 rfl).elim)
  obtain ⟨rfl, rfl, h9⟩ := hP
  subst M9
  rw [if_pos h0]
  refine zr_if_ne (q := 12) (q2 := 8) dX1_reweigh_5 (by decide) rfl (fun h5 => ?_) (fun h5 => ?_)
  · refine zp_il2 (q := 13) dX1_reweigh_12 rfl ?_
    refine zp_callS1 (s_X1_isWeight) mtX1_isWeight wtX1_isWeight wlX1_62 (q := 16) dX1_reweigh_13 rfl rfl rfl rfl rfl (fun r S9 M9 h8 hP => ?_) (fun k S9 M9 hP => (z_no hP.1 rfl).elim)
    obtain ⟨rfl, rfl, h9⟩ := hP
    subst M9
    rw [if_neg hx]
    refine zr_if_ne (q := 23) (q2 := 19) dX1_reweigh_16 (by decide) rfl (fun h16 => ?_) (fun h16 => ?_)
    · exact absurd rfl h16
    · refine zr_gets (v := (1, -4)) (Cn := "WindElection$Fault") (n := "WEIGHT_OUT_OF_RANGE") (d := "LWindElection$Fault;") (fun C s h => zs_F 3 (by decide) h) (fun _ => z_in_of rfl) (z_all_in (i := 750) (by decide +kernel) (by decide +kernel)) dX1_reweigh_19 rfl ?_
      refine zr_areturn dX1_reweigh_22 rfl (Or.inl ⟨_, rfl⟩) ?_
      exact ⟨rfl, rfl, rfl⟩
  · exact absurd (by decide) h5
theorem s_X11_spun {s : Int} (h0 : 0 ≤ s) (h1 : s < 16) : z_Call mX11_spun zF [(0, s)] M (zpF 0 ((5 * s + 3) % 16) M) := by
  refine z_enter (k := 0) rfl rfl rfl ?_
  refine zr_iconst (q := 1) dX11_spun_0 rfl (z_in_of rfl) ?_
  refine zp_il0 (q := 2) dX11_spun_1 rfl ?_
  refine zr_imul (q := 3) dX11_spun_2 rfl (fun hA hB => by unfold z_in at hA hB ⊢; omega) ?_
  refine zr_iconst (q := 4) dX11_spun_3 rfl (z_in_of rfl) ?_
  refine zr_iadd (q := 5) dX11_spun_4 rfl (fun hA hB => by unfold z_in at hA hB ⊢; omega) ?_
  refine zr_bipush (q := 7) dX11_spun_5 rfl (z_in_of rfl) (by decide +kernel) ?_
  refine zr_irem (q := 8) dX11_spun_7 rfl (by omega) (by omega) ?_
  refine zr_ireturn dX11_spun_8 rfl (z_fit_i _) ?_
  exact ⟨rfl, rfl, rfl⟩
theorem zAR.spin (hG : zWF G) (R : zAR M a G) {s : Int} : zAR (z_up M a 6 s) a (gSpin G s) := by
  have hw := hG.w
  refine R.top hG (fun z z0 z1 => by rw [z_up_ne (by omega)]) (fun j j0 => by unfold gSpin zSet; omega) (by unfold gSpin zSet; omega) (fun w w0 w1 => by rw [z_up_ne (by omega)]; exact R.h.z1 w0 w1) (z_up_sl (by decide)) (z_up_sl (by decide)) (z_up_sl (by decide)) ?_ ?_ (z_up_sl (by decide)) ?_ (fun v v0 v1 => ?_) ⟨fun v v0 v1 => ?_, fun t t0 t1 => ?_⟩
  · rw [z_up_sl (by decide), R.w]; unfold gSpin zSet; omega
  · rw [z_up_sl (by decide), R.s]; unfold gSpin zSet; omega
  · rw [z_up_eq]; unfold gSpin zSet; omega
  · have e : gSpin G s 0 = G 0 := by unfold gSpin zSet; omega
    have e4 : gSpin G s (4 + v) = G (4 + v) := by unfold gSpin zSet; omega
    rw [e] at v1
    rw [z_up_ne (by omega), e4]
    exact R.st v0 v1
  · have e : gSpin G s 0 = G 0 := by unfold gSpin zSet; omega
    rw [e] at v1
    have e3 : gSpin G s 3 = G 3 := by unfold gSpin zSet; omega
    have h9 := R.seat.1 v v0 v1
    have e4 : gSpin G s (4 + v) = G (4 + v) := by unfold gSpin zSet; omega
    rw [z_up_ne (by omega), e4, e3]
    refine ⟨h9.1, fun h => ?_⟩
    have h8 := h9.2 h
    have e5 : gSpin G s (12 + M (a + 2) v) = G (12 + M (a + 2) v) := by unfold gSpin zSet; omega
    rw [e5]
    exact h8
  · have e3 : gSpin G s 3 = G 3 := by unfold gSpin zSet; omega
    rw [e3] at t1
    have h9 := R.seat.2 t t0 t1
    have e0 : gSpin G s 0 = G 0 := by unfold gSpin zSet; omega
    have e5 : gSpin G s (12 + t) = G (12 + t) := by unfold gSpin zSet; omega
    have e6 : gSpin G s (4 + G (12 + t)) = G (4 + G (12 + t)) := by unfold gSpin zSet; omega
    rw [e5, e6, e0, z_up_ne (by omega)]
    exact h9
theorem s_X1_turnSpinner (ha : zAs a) (R : zAR M a G) (hG : zWF G) : z_Call mX1_turnSpinner zF [(1, a)] M (zpA (1, -1) a (gSpin G ((5 * G 2 + 3) % 16)) M) := by
  have o0 := zAs_0 ha
  have hs := hG.sp
  refine z_enter (k := 0) rfl rfl rfl ?_
  refine zp_al0 (q := 1) dX1_turnSpinner_0 rfl ?_
  refine zp_al0 (q := 2) dX1_turnSpinner_1 rfl ?_
  refine zf_getG (v := G 2) 6 (by first | assumption | exact k2 | exact k46 | exact k90) (R.sp) rfl fdX1_35 (q := 5) dX1_turnSpinner_2 rfl rfl ?_
  refine zp_callSN1 (s_X11_spun hs.1 hs.2) (fun k S9 M9 hP => (z_no hP.1 rfl).elim) mtX11_spun wtX11_spun wnX1_97 (q := 8) dX1_turnSpinner_5 rfl rfl rfl rfl rfl (fun r S9 M9 h8 hP => ?_)
  obtain ⟨rfl, rfl, h9⟩ := hP
  subst M9
  refine zf_putG 6 (by first | assumption | exact k2 | exact k46 | exact k90) rfl fpX1_35 (q := 11) dX1_turnSpinner_8 rfl rfl (by decide) (z_fit_i _) ?_
  refine zr_gets (v := (1, -1)) (Cn := "WindElection$Fault") (n := "NONE") (d := "LWindElection$Fault;") (fun C s h => zs_F 0 (by decide) h) (fun _ => z_in_of rfl) (z_all_in (i := 435) (by decide +kernel) (by decide +kernel)) dX1_turnSpinner_11 rfl ?_
  refine zr_areturn dX1_turnSpinner_14 rfl (Or.inl ⟨_, rfl⟩) ?_
  exact ⟨rfl, rfl, R.spin hG, fun z hz => z_up_ne (by omega)⟩
theorem s_X1_giveSeat (ha : zAs a) (R : zAR M a G) (hG : zWF G) {w : Int} (h0 : 0 ≤ w) (h1 : w < G 0) (h2 : G (4 + w) = 0) : z_Call mX1_giveSeat zF [(1, a), (0, w)] M (zpA (9, 0) a (gSeat G w) M) := by
  have o0 := zAs_0 ha
  have o1 := zAs_1 ha
  have o2 := zAs_2 ha
  have hw := hG.w
  have h7 := hG.s7 h0 h1 h2
  have hs0 := hG.s
  refine z_enter (k := 0) rfl rfl rfl ?_
  refine zp_al0 (q := 1) dX1_giveSeat_0 rfl ?_
  refine zf_getG (v := a + 1) 1 (by first | assumption | exact k2 | exact k46 | exact k90) (R.h.p1) rfl fdX1_15 (q := 4) dX1_giveSeat_1 rfl rfl ?_
  refine zp_il1 (q := 5) dX1_giveSeat_4 rfl ?_
  refine zr_iconst (q := 6) dX1_giveSeat_5 rfl (z_in_of rfl) ?_
  refine zf_zast (by first | assumption | exact k518 | exact k519 | exact k520 | exact k521 | exact k522 | exact k523 | exact k524 | exact k525 | exact k526 | exact k527 | exact k528 | exact k510 | exact k512 | exact k515 | exact k516 | exact k507 | exact k509 | exact k135 | exact k489 | exact k529 | exact k530) (q := 7) dX1_giveSeat_6 rfl (by omega) (by omega) (by omega) ?_
  refine zp_al0 (q := 8) dX1_giveSeat_7 rfl ?_
  refine zf_getG (v := a + 2) 2 (by first | assumption | exact k2 | exact k46 | exact k90) (by rw [z_up_ne (by omega)]; exact R.h.p2) rfl fdX1_19 (q := 11) dX1_giveSeat_8 rfl rfl ?_
  refine zp_il1 (q := 12) dX1_giveSeat_11 rfl ?_
  refine zp_al0 (q := 13) dX1_giveSeat_12 rfl ?_
  refine zf_getG (v := G 3) 3 (by first | assumption | exact k2 | exact k46 | exact k90) (by rw [z_up_ne (by omega)]; exact R.s) rfl fdX1_23 (q := 16) dX1_giveSeat_13 rfl rfl ?_
  refine zf_iast (by first | assumption | exact k518 | exact k519 | exact k520 | exact k521 | exact k522 | exact k523 | exact k524 | exact k525 | exact k526 | exact k527 | exact k528 | exact k510 | exact k512 | exact k515 | exact k516 | exact k507 | exact k509 | exact k135 | exact k489 | exact k529 | exact k530) (q := 17) dX1_giveSeat_16 rfl (by omega) (by omega) ?_
  refine zp_al0 (q := 18) dX1_giveSeat_17 rfl ?_
  refine zr_dup (q := 19) dX1_giveSeat_18 rfl (Or.inr rfl) ?_
  refine zf_getG (v := G 3) 3 (by first | assumption | exact k2 | exact k46 | exact k90) (by rw [z_up_ne (by omega), z_up_ne (by omega)]; exact R.s) rfl fdX1_23 (q := 22) dX1_giveSeat_19 rfl rfl ?_
  refine zr_iconst (q := 23) dX1_giveSeat_22 rfl (z_in_of rfl) ?_
  refine zr_iadd (q := 24) dX1_giveSeat_23 rfl (fun hA hB => by unfold z_in at hA hB ⊢; omega) ?_
  refine zf_putG 3 (by first | assumption | exact k2 | exact k46 | exact k90) rfl fpX1_23 (q := 27) dX1_giveSeat_24 rfl rfl (by decide) (z_fit_i _) ?_
  refine zr_return dX1_giveSeat_27 rfl ?_
  have e : gSeat G w 0 = G 0 := by unfold gSeat zSet; omega
  have e3 : gSeat G w 3 = G 3 + 1 := by unfold gSeat zSet; omega
  have e4 : ∀ v, 0 ≤ v → v < G 0 → gSeat G w (4 + v) = if v = w then 2 else G (4 + v) := fun v v0 v1 => by unfold gSeat zSet; omega
  have e5 : ∀ s, 0 ≤ s → s ≤ G 3 → gSeat G w (12 + s) = if s = G 3 then w else G (12 + s) := fun v v0 v1 => by unfold gSeat zSet; omega
  refine ⟨rfl, rfl, R.top hG (fun z z0 z1 => by rw [z_up_ne (by omega), z_up_ne (by omega), z_up_ne (by omega)]) (fun j j0 => by unfold gSeat zSet; omega) (by unfold gSeat zSet; omega) (fun v w0 w1 => by
    rw [z_up_ne (by omega), z_up_ne (by omega)]
    by_cases e : v = w
    · rw [e, z_up_eq]; left; rfl
    · rw [z_up_sl e]; exact R.h.z1 w0 w1) ?_ ?_ ?_ ?_ ?_ ?_ ?_ (fun v v0 v1 => ?_) ⟨fun v v0 v1 => ?_, fun s s0 s1 => ?_⟩, fun z hz => by rw [z_up_ne (by omega), z_up_ne (by omega), z_up_ne (by omega)]⟩
  · rw [z_up_sl (by decide), z_up_ne (by omega), z_up_ne (by omega)]
  · rw [z_up_sl (by decide), z_up_ne (by omega), z_up_ne (by omega)]
  · rw [z_up_sl (by decide), z_up_ne (by omega), z_up_ne (by omega)]
  · rw [z_up_sl (by decide), z_up_ne (by omega), z_up_ne (by omega), R.w, e]
  · rw [z_up_eq, e3]
  · rw [z_up_sl (by decide), z_up_ne (by omega), z_up_ne (by omega)]
  · rw [z_up_sl (by decide), z_up_ne (by omega), z_up_ne (by omega), R.sp]; unfold gSeat zSet; omega
  · rw [e] at v1
    rw [z_up_ne (by omega), z_up_ne (by omega), e4 v v0 v1]
    by_cases e2 : v = w
    · rw [e2, z_up_eq, if_pos rfl]; rfl
    · rw [z_up_sl e2, R.st v0 v1, if_neg e2]
  · rw [e] at v1
    have h9 := R.seat.1 v v0 v1
    rw [z_up_ne (by omega), e4 v v0 v1, e3]
    by_cases e2 : v = w
    · rw [e2, z_up_eq, if_pos rfl, e5 _ (by omega) (by omega), if_pos rfl]
      exact ⟨fun h => absurd rfl h, fun _ => ⟨by omega, by omega, rfl⟩⟩
    · rw [z_up_sl e2, if_neg e2, z_up_ne (by omega)]
      refine ⟨h9.1, fun h => ?_⟩
      have h8 := h9.2 h
      rw [e5 _ (by omega) (by omega), if_neg (by omega)]
      exact ⟨h8.1, by omega, h8.2.2⟩
  · rw [e3] at s1
    rw [e5 s s0 (by omega), e]
    by_cases es : s = G 3
    · rw [if_pos es, e4 w h0 h1, if_pos rfl, z_up_ne (by omega), z_up_eq]
      exact ⟨h0, h1, rfl, es.symm⟩
    · have h9 := R.seat.2 s s0 (by omega)
      have e7 : G (12 + s) ≠ w := fun e => by rw [e] at h9; omega
      rw [if_neg es, e4 _ h9.1 h9.2.1, if_neg e7, z_up_ne (by omega), z_up_sl e7, z_up_ne (by omega)]
      exact h9
end ZKD
