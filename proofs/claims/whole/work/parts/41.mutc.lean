/-! dep: 40 -/
/-! ===== WindElection$Assembly: what changes it ===== -/
section ZKC
variable {M : zM} {a : Int} {G : Int → Int}
theorem s_X2_start {b x f : Int} (ha : zAs a) (hb : zBl a b) (hp : M b 2 = b + 1) : z_Call mX2_start zF [(1, b), (0, x), (0, f)] M (zpF 9 0 (z_up (z_up (z_up M b 0 x) b 1 1) (b + 1) 0 f)) := by
  have o0 := zBl_0 ha hb
  have o1 := zBl_1 ha hb
  refine z_enter (k := 0) rfl rfl rfl ?_
  refine zp_al0 (q := 1) dX2_start_0 rfl ?_
  refine zp_il1 (q := 2) dX2_start_1 rfl ?_
  refine zf_putG 0 (by assumption) rfl fpX2_15 (q := 5) dX2_start_2 rfl rfl (by decide) (z_fit_i _) ?_
  refine zp_al0 (q := 6) dX2_start_5 rfl ?_
  refine zr_iconst (q := 7) dX2_start_6 rfl (z_in_of rfl) ?_
  refine zf_putG 1 (by assumption) rfl fpX2_19 (q := 10) dX2_start_7 rfl rfl (by decide) (z_fit_i _) ?_
  refine zp_al0 (q := 11) dX2_start_10 rfl ?_
  refine zf_getG (v := b + 1) 2 (by assumption) (by rw [z_up_sl (by decide), z_up_sl (by decide)]; exact hp) rfl fdX2_9 (q := 14) dX2_start_11 rfl rfl ?_
  refine zr_iconst (q := 15) dX2_start_14 rfl (z_in_of rfl) ?_
  refine zp_il2 (q := 16) dX2_start_15 rfl ?_
  refine zf_iast (by first | assumption | exact k518 | exact k519 | exact k520 | exact k521 | exact k522 | exact k523 | exact k524 | exact k525 | exact k526 | exact k527 | exact k528 | exact k510 | exact k512 | exact k515 | exact k516 | exact k507 | exact k509 | exact k135 | exact k489 | exact k529 | exact k530) (q := 17) dX2_start_16 rfl (by omega) (by omega) ?_
  refine zr_return dX2_start_17 rfl ?_
  exact ⟨rfl, rfl, rfl⟩
theorem s_X2_append {b w n : Int} (ha : zAs a) (hb : zBl a b) (hp : M b 2 = b + 1) (hn : M b 1 = n) (h0 : 0 ≤ n) (h5 : n < 5) : z_Call mX2_append zF [(1, b), (0, w)] M (zpF 0 1 (z_up (z_up M (b + 1) n w) b 1 (n + 1))) := by
  have o0 := zBl_0 ha hb
  have o1 := zBl_1 ha hb
  refine z_enter (k := 0) rfl rfl rfl ?_
  refine zp_al0 (q := 1) dX2_append_0 rfl ?_
  refine zf_getG (v := n) 1 (by assumption) (hn) rfl fdX2_19 (q := 4) dX2_append_1 rfl rfl ?_
  refine zr_iconst (q := 5) dX2_append_4 rfl (z_in_of rfl) ?_
  refine zr_icmp_lt (q := 10) (q2 := 8) dX2_append_5 (by decide) rfl (fun h5 => ?_) (fun h5 => ?_)
  · refine zp_al0 (q := 11) dX2_append_10 rfl ?_
    refine zf_getG (v := b + 1) 2 (by assumption) (hp) rfl fdX2_9 (q := 14) dX2_append_11 rfl rfl ?_
    refine zp_al0 (q := 15) dX2_append_14 rfl ?_
    refine zf_getG (v := n) 1 (by assumption) (hn) rfl fdX2_19 (q := 18) dX2_append_15 rfl rfl ?_
    refine zp_il1 (q := 19) dX2_append_18 rfl ?_
    refine zf_iast (by first | assumption | exact k518 | exact k519 | exact k520 | exact k521 | exact k522 | exact k523 | exact k524 | exact k525 | exact k526 | exact k527 | exact k528 | exact k510 | exact k512 | exact k515 | exact k516 | exact k507 | exact k509 | exact k135 | exact k489 | exact k529 | exact k530) (q := 20) dX2_append_19 rfl (by omega) (by omega) ?_
    refine zp_al0 (q := 21) dX2_append_20 rfl ?_
    refine zr_dup (q := 22) dX2_append_21 rfl (Or.inr rfl) ?_
    refine zf_getG (v := n) 1 (by assumption) (by rw [z_up_ne (by omega)]; exact hn) rfl fdX2_19 (q := 25) dX2_append_22 rfl rfl ?_
    refine zr_iconst (q := 26) dX2_append_25 rfl (z_in_of rfl) ?_
    refine zr_iadd (q := 27) dX2_append_26 rfl (fun hA hB => by unfold z_in at hA hB ⊢; omega) ?_
    refine zf_putG 1 (by assumption) rfl fpX2_19 (q := 30) dX2_append_27 rfl rfl (by decide) (z_fit_i _) ?_
    refine zr_iconst (q := 31) dX2_append_30 rfl (z_in_of rfl) ?_
    refine zr_ireturn dX2_append_31 rfl (z_fit_z (by decide)) ?_
    exact ⟨rfl, rfl, rfl⟩
  · exact absurd h5 (by omega)
theorem s_X2_append_x {b w n : Int} (ha : zAs a) (hb : zBl a b) (hn : M b 1 = n) (h5 : ¬ n < 5) : z_Call mX2_append zF [(1, b), (0, w)] M (zpF 0 0 M) := by
  have o0 := zBl_0 ha hb
  refine z_enter (k := 0) rfl rfl rfl ?_
  refine zp_al0 (q := 1) dX2_append_0 rfl ?_
  refine zf_getG (v := n) 1 (by assumption) (hn) rfl fdX2_19 (q := 4) dX2_append_1 rfl rfl ?_
  refine zr_iconst (q := 5) dX2_append_4 rfl (z_in_of rfl) ?_
  refine zr_icmp_lt (q := 10) (q2 := 8) dX2_append_5 (by decide) rfl (fun h5 => ?_) (fun h5 => ?_)
  · exact absurd h5 (by assumption)
  · refine zr_iconst (q := 9) dX2_append_8 rfl (z_in_of rfl) ?_
    refine zr_ireturn dX2_append_9 rfl (z_fit_z (by decide)) ?_
    exact ⟨rfl, rfl, rfl⟩
theorem s_X1_putWind (ha : zAs a) (R : zAR M a G) (hG : zWF G) (h8 : G 0 < 8) : z_Call mX1_putWind zF [(1, a)] M (zpA (1, -1) a (gAdd G) M) := by
  have o0 := zAs_0 ha
  have o1 := zAs_1 ha
  have o2 := zAs_2 ha
  have hw := hG.w
  refine z_enter (k := 0) rfl rfl rfl ?_
  refine zp_al0 (q := 1) dX1_putWind_0 rfl ?_
  refine zf_getG (v := G 0) 0 (by first | assumption | exact k2 | exact k46 | exact k90) (R.w) rfl fdX1_9 (q := 4) dX1_putWind_1 rfl rfl ?_
  refine zr_bipush (q := 6) dX1_putWind_4 rfl (z_in_of rfl) (by decide +kernel) ?_
  refine zr_icmp_lt (q := 13) (q2 := 9) dX1_putWind_6 (by decide) rfl (fun h6 => ?_) (fun h6 => ?_)
  · refine zp_al0 (q := 14) dX1_putWind_13 rfl ?_
    refine zf_getG (v := a + 1) 1 (by first | assumption | exact k2 | exact k46 | exact k90) (R.h.p1) rfl fdX1_15 (q := 17) dX1_putWind_14 rfl rfl ?_
    refine zp_al0 (q := 18) dX1_putWind_17 rfl ?_
    refine zf_getG (v := G 0) 0 (by first | assumption | exact k2 | exact k46 | exact k90) (R.w) rfl fdX1_9 (q := 21) dX1_putWind_18 rfl rfl ?_
    refine zr_iconst (q := 22) dX1_putWind_21 rfl (z_in_of rfl) ?_
    refine zf_zast (by first | assumption | exact k518 | exact k519 | exact k520 | exact k521 | exact k522 | exact k523 | exact k524 | exact k525 | exact k526 | exact k527 | exact k528 | exact k510 | exact k512 | exact k515 | exact k516 | exact k507 | exact k509 | exact k135 | exact k489 | exact k529 | exact k530) (q := 23) dX1_putWind_22 rfl (by omega) (by omega) (by right; rfl) ?_
    refine zp_al0 (q := 24) dX1_putWind_23 rfl ?_
    refine zf_getG (v := a + 2) 2 (by first | assumption | exact k2 | exact k46 | exact k90) (by rw [z_up_ne (by omega)]; exact R.h.p2) rfl fdX1_19 (q := 27) dX1_putWind_24 rfl rfl ?_
    refine zp_al0 (q := 28) dX1_putWind_27 rfl ?_
    refine zf_getG (v := G 0) 0 (by first | assumption | exact k2 | exact k46 | exact k90) (by rw [z_up_ne (by omega)]; exact R.w) rfl fdX1_9 (q := 31) dX1_putWind_28 rfl rfl ?_
    refine zr_iconst (q := 32) dX1_putWind_31 rfl (z_in_of rfl) ?_
    refine zf_iast (by first | assumption | exact k518 | exact k519 | exact k520 | exact k521 | exact k522 | exact k523 | exact k524 | exact k525 | exact k526 | exact k527 | exact k528 | exact k510 | exact k512 | exact k515 | exact k516 | exact k507 | exact k509 | exact k135 | exact k489 | exact k529 | exact k530) (q := 33) dX1_putWind_32 rfl (by omega) (by omega) ?_
    refine zp_al0 (q := 34) dX1_putWind_33 rfl ?_
    refine zr_dup (q := 35) dX1_putWind_34 rfl (Or.inr rfl) ?_
    refine zf_getG (v := G 0) 0 (by first | assumption | exact k2 | exact k46 | exact k90) (by rw [z_up_ne (by omega), z_up_ne (by omega)]; exact R.w) rfl fdX1_9 (q := 38) dX1_putWind_35 rfl rfl ?_
    refine zr_iconst (q := 39) dX1_putWind_38 rfl (z_in_of rfl) ?_
    refine zr_iadd (q := 40) dX1_putWind_39 rfl (fun hA hB => by unfold z_in at hA hB ⊢; omega) ?_
    refine zf_putG 0 (by first | assumption | exact k2 | exact k46 | exact k90) rfl fpX1_9 (q := 43) dX1_putWind_40 rfl rfl (by decide) (z_fit_i _) ?_
    refine zr_gets (v := (1, -1)) (Cn := "WindElection$Fault") (n := "NONE") (d := "LWindElection$Fault;") (fun C s h => zs_F 0 (by decide) h) (fun _ => z_in_of rfl) (z_all_in (i := 435) (by decide +kernel) (by decide +kernel)) dX1_putWind_43 rfl ?_
    refine zr_areturn dX1_putWind_46 rfl (Or.inl ⟨_, rfl⟩) ?_
    refine ⟨rfl, rfl, R.top hG (fun z z0 z1 => by rw [z_up_ne (by omega), z_up_ne (by omega), z_up_ne (by omega)]) (fun j j0 => by unfold gAdd zSet; omega) (by unfold gAdd zSet; omega) (fun w w0 w1 => by
      rw [z_up_ne (by omega), z_up_ne (by omega)]
      by_cases e : w = G 0
      · rw [e, z_up_eq]; right; rfl
      · rw [z_up_sl e]; exact R.h.z1 w0 w1) ?_ ?_ ?_ ?_ ?_ ?_ ?_ (fun w w0 w1 => ?_) ⟨fun w w0 w1 => ?_, fun s s0 s1 => ?_⟩, fun z hz => by rw [z_up_ne (by omega), z_up_ne (by omega), z_up_ne (by omega)]⟩
    · rw [z_up_sl (by decide), z_up_ne (by omega), z_up_ne (by omega)]
    · rw [z_up_sl (by decide), z_up_ne (by omega), z_up_ne (by omega)]
    · rw [z_up_sl (by decide), z_up_ne (by omega), z_up_ne (by omega)]
    · rw [z_up_eq]; rfl
    · rw [z_up_sl (by decide), z_up_ne (by omega), z_up_ne (by omega), R.s]; unfold gAdd zSet; omega
    · rw [z_up_sl (by decide), z_up_ne (by omega), z_up_ne (by omega)]
    · rw [z_up_sl (by decide), z_up_ne (by omega), z_up_ne (by omega), R.sp]; unfold gAdd zSet; omega
    · have e : gAdd G 0 = G 0 + 1 := rfl
      rw [e] at w1
      rw [z_up_ne (by omega), z_up_ne (by omega)]
      by_cases e2 : w = G 0
      · rw [e2, z_up_eq]; unfold gAdd zSet; omega
      · rw [z_up_sl e2, R.st w0 (by omega)]; unfold gAdd zSet; omega
    · have e : gAdd G 0 = G 0 + 1 := rfl
      rw [e] at w1
      rw [z_up_ne (by omega)]
      have e3 : gAdd G 3 = G 3 := by unfold gAdd zSet; omega
      by_cases e2 : w = G 0
      · rw [e2, z_up_eq]
        have e4 : gAdd G (4 + G 0) = 0 := by unfold gAdd zSet; omega
        rw [e4]
        exact ⟨fun _ => rfl, fun h => by omega⟩
      · have h9 := R.seat.1 w w0 (by omega)
        have e4 : gAdd G (4 + w) = G (4 + w) := by unfold gAdd zSet; omega
        rw [z_up_sl e2, z_up_ne (by omega), e4, e3]
        refine ⟨h9.1, fun h => ?_⟩
        have h8 := h9.2 h
        have e5 : gAdd G (12 + M (a + 2) w) = G (12 + M (a + 2) w) := by unfold gAdd zSet; omega
        rw [e5]
        exact h8
    · have e3 : gAdd G 3 = G 3 := by unfold gAdd zSet; omega
      rw [e3] at s1
      have h9 := R.seat.2 s s0 s1
      have e0 : gAdd G 0 = G 0 + 1 := rfl
      have e5 : gAdd G (12 + s) = G (12 + s) := by unfold gAdd zSet; omega
      have e6 : gAdd G (4 + G (12 + s)) = G (4 + G (12 + s)) := by unfold gAdd zSet; omega
      rw [e5, e6, e0, z_up_ne (by omega), z_up_sl (by omega), z_up_ne (by omega)]
      exact ⟨h9.1, by omega, h9.2.2⟩
  · exact absurd h6 (by omega)
theorem s_X1_putWind_x (ha : zAs a) (R : zAR M a G) (hG : zWF G) (h8 : ¬ G 0 < 8) : z_Call mX1_putWind zF [(1, a)] M (zpF 1 (-6) M) := by
  have o0 := zAs_0 ha
  refine z_enter (k := 0) rfl rfl rfl ?_
  refine zp_al0 (q := 1) dX1_putWind_0 rfl ?_
  refine zf_getG (v := G 0) 0 (by first | assumption | exact k2 | exact k46 | exact k90) (R.w) rfl fdX1_9 (q := 4) dX1_putWind_1 rfl rfl ?_
  refine zr_bipush (q := 6) dX1_putWind_4 rfl (z_in_of rfl) (by decide +kernel) ?_
  refine zr_icmp_lt (q := 13) (q2 := 9) dX1_putWind_6 (by decide) rfl (fun h6 => ?_) (fun h6 => ?_)
  · exact absurd h6 h8
  · refine zr_gets (v := (1, -6)) (Cn := "WindElection$Fault") (n := "TOO_MANY_WINDS") (d := "LWindElection$Fault;") (fun C s h => zs_F 5 (by decide) h) (fun _ => z_in_of rfl) (z_all_in (i := 677) (by decide +kernel) (by decide +kernel)) dX1_putWind_9 rfl ?_
    refine zr_areturn dX1_putWind_12 rfl (Or.inl ⟨_, rfl⟩) ?_
    exact ⟨rfl, rfl, rfl⟩
theorem zAR.go (hG : zWF G) (R : zAR M a G) {w : Int} (h0 : 0 ≤ w) (h1 : w < G 0) (h2 : G (4 + w) = 0) : zAR (z_up M (a + 1) w 0) a (gGo G w) := by
  have hw := hG.w
  refine R.top hG (fun z z0 z1 => by rw [z_up_ne (by omega)]) (fun j j0 => by unfold gGo zSet; omega) (by unfold gGo zSet; omega) (fun v w0 w1 => by
    by_cases e : v = w
    · rw [e, z_up_eq]; left; rfl
    · rw [z_up_sl e]; exact R.h.z1 w0 w1) ?_ ?_ ?_ ?_ ?_ ?_ ?_ (fun v v0 v1 => ?_) ⟨fun v v0 v1 => ?_, fun s s0 s1 => ?_⟩
  · rw [z_up_ne (by omega)]
  · rw [z_up_ne (by omega)]
  · rw [z_up_ne (by omega)]
  · rw [z_up_ne (by omega), R.w]; unfold gGo zSet; omega
  · rw [z_up_ne (by omega), R.s]; unfold gGo zSet; omega
  · rw [z_up_ne (by omega)]
  · rw [z_up_ne (by omega), R.sp]; unfold gGo zSet; omega
  · have e : gGo G w 0 = G 0 := by unfold gGo zSet; omega
    rw [e] at v1
    by_cases e2 : v = w
    · rw [e2, z_up_eq]; unfold gGo zSet; omega
    · rw [z_up_sl e2, R.st v0 v1]; unfold gGo zSet; omega
  · have e : gGo G w 0 = G 0 := by unfold gGo zSet; omega
    rw [e] at v1
    have e3 : gGo G w 3 = G 3 := by unfold gGo zSet; omega
    have h9 := R.seat.1 v v0 v1
    have e4 : gGo G w (4 + v) = if v = w then 1 else G (4 + v) := by unfold gGo zSet; omega
    rw [z_up_ne (by omega), e4, e3]
    by_cases e2 : v = w
    · rw [if_pos e2]
      exact ⟨fun _ => h9.1 (by rw [e2]; omega), fun h => by omega⟩
    · rw [if_neg e2]
      refine ⟨h9.1, fun h => ?_⟩
      have h8 := h9.2 h
      have e5 : gGo G w (12 + M (a + 2) v) = G (12 + M (a + 2) v) := by unfold gGo zSet; omega
      rw [e5]
      exact h8
  · have e3 : gGo G w 3 = G 3 := by unfold gGo zSet; omega
    rw [e3] at s1
    have h9 := R.seat.2 s s0 s1
    have e0 : gGo G w 0 = G 0 := by unfold gGo zSet; omega
    have e5 : gGo G w (12 + s) = G (12 + s) := by unfold gGo zSet; omega
    have e7 : G (12 + s) ≠ w := fun e => by rw [e] at h9; omega
    have e6 : gGo G w (4 + G (12 + s)) = G (4 + G (12 + s)) := by unfold gGo zSet; omega
    rw [e5, e6, e0, z_up_ne (by omega)]
    exact h9
theorem s_X1_letGo (ha : zAs a) (R : zAR M a G) (hG : zWF G) {w : Int} (h0 : 0 ≤ w) (h1 : w < G 0) (h2 : G (4 + w) = 0) : z_Call mX1_letGo zF [(1, a), (0, w)] M (zpA (1, -1) a (gGo G w) M) := by
  have o0 := zAs_0 ha
  have o1 := zAs_1 ha
  have hw := hG.w
  refine z_enter (k := 0) rfl rfl rfl ?_
  refine zp_al0 (q := 1) dX1_letGo_0 rfl ?_
  refine zp_il1 (q := 2) dX1_letGo_1 rfl ?_
  refine zf_callV1 (by first | assumption | exact k2 | exact k46 | exact k90) (s_X1_hasWind ha R) mtX1_hasWind wiX1_hasWind weX1_hasWind wlX1_52 (q := 5) dX1_letGo_2 rfl rfl rfl rfl rfl rfl rfl (fun r S9 M9 h8 hP => ?_) (fun k S9 M9 hP => (z_no hP.1 rfl).elim)
  obtain ⟨rfl, rfl, h9⟩ := hP
  subst M9
  rw [if_pos ⟨h0, h1⟩]
  refine zr_if_ne (q := 12) (q2 := 8) dX1_letGo_5 (by decide) rfl (fun h5 => ?_) (fun h5 => ?_)
  · refine zp_al0 (q := 13) dX1_letGo_12 rfl ?_
    refine zf_getG (v := a + 1) 1 (by first | assumption | exact k2 | exact k46 | exact k90) (R.h.p1) rfl fdX1_15 (q := 16) dX1_letGo_13 rfl rfl ?_
    refine zp_il1 (q := 17) dX1_letGo_16 rfl ?_
    refine zf_zald (v := 1) (by first | assumption | exact k518 | exact k519 | exact k520 | exact k521 | exact k522 | exact k523 | exact k524 | exact k525 | exact k526 | exact k527 | exact k528 | exact k510 | exact k512 | exact k515 | exact k516 | exact k507 | exact k509 | exact k135 | exact k489 | exact k529 | exact k530) (by rw [R.st h0 h1, if_pos h2]) (q := 18) dX1_letGo_17 rfl (by omega) (by omega) ?_
    refine zr_if_ne (q := 25) (q2 := 21) dX1_letGo_18 (by decide) rfl (fun h18 => ?_) (fun h18 => ?_)
    · refine zp_al0 (q := 26) dX1_letGo_25 rfl ?_
      refine zf_getG (v := a + 1) 1 (by first | assumption | exact k2 | exact k46 | exact k90) (R.h.p1) rfl fdX1_15 (q := 29) dX1_letGo_26 rfl rfl ?_
      refine zp_il1 (q := 30) dX1_letGo_29 rfl ?_
      refine zr_iconst (q := 31) dX1_letGo_30 rfl (z_in_of rfl) ?_
      refine zf_zast (by first | assumption | exact k518 | exact k519 | exact k520 | exact k521 | exact k522 | exact k523 | exact k524 | exact k525 | exact k526 | exact k527 | exact k528 | exact k510 | exact k512 | exact k515 | exact k516 | exact k507 | exact k509 | exact k135 | exact k489 | exact k529 | exact k530) (q := 32) dX1_letGo_31 rfl (by omega) (by omega) (by omega) ?_
      refine zr_gets (v := (1, -1)) (Cn := "WindElection$Fault") (n := "NONE") (d := "LWindElection$Fault;") (fun C s h => zs_F 0 (by decide) h) (fun _ => z_in_of rfl) (z_all_in (i := 435) (by decide +kernel) (by decide +kernel)) dX1_letGo_32 rfl ?_
      refine zr_areturn dX1_letGo_35 rfl (Or.inl ⟨_, rfl⟩) ?_
      exact ⟨rfl, rfl, R.go hG h0 h1 h2, fun z hz => z_up_ne (by omega)⟩
    · exact absurd (by decide) h18
  · exact absurd (by decide) h5
theorem s_X1_letGo_x (ha : zAs a) (R : zAR M a G) (hG : zWF G) {w : Int} (h0 : ¬ (0 ≤ w ∧ w < G 0)) : z_Call mX1_letGo zF [(1, a), (0, w)] M (zpF 1 (-2) M) := by
  have o0 := zAs_0 ha
  refine z_enter (k := 0) rfl rfl rfl ?_
  refine zp_al0 (q := 1) dX1_letGo_0 rfl ?_
  refine zp_il1 (q := 2) dX1_letGo_1 rfl ?_
  refine zf_callV1 (by first | assumption | exact k2 | exact k46 | exact k90) (s_X1_hasWind ha R) mtX1_hasWind wiX1_hasWind weX1_hasWind wlX1_52 (q := 5) dX1_letGo_2 rfl rfl rfl rfl rfl rfl rfl (fun r S9 M9 h8 hP => ?_) (fun k S9 M9 hP => (z_no hP.1 rfl).elim)
  obtain ⟨rfl, rfl, h9⟩ := hP
  subst M9
  rw [if_neg h0]
  refine zr_if_ne (q := 12) (q2 := 8) dX1_letGo_5 (by decide) rfl (fun h5 => ?_) (fun h5 => ?_)
  · exact absurd rfl h5
  · refine zr_gets (v := (1, -2)) (Cn := "WindElection$Fault") (n := "NO_SUCH_WIND") (d := "LWindElection$Fault;") (fun C s h => zs_F 1 (by decide) h) (fun _ => z_in_of rfl) (z_all_in (i := 712) (by decide +kernel) (by decide +kernel)) dX1_letGo_8 rfl ?_
    refine zr_areturn dX1_letGo_11 rfl (Or.inl ⟨_, rfl⟩) ?_
    exact ⟨rfl, rfl, rfl⟩
theorem s_X1_letGo_y (ha : zAs a) (R : zAR M a G) (hG : zWF G) {w : Int} (h0 : 0 ≤ w) (h1 : w < G 0) (h2 : G (4 + w) ≠ 0) : z_Call mX1_letGo zF [(1, a), (0, w)] M (zpF 1 (-9) M) := by
  have o0 := zAs_0 ha
  have o1 := zAs_1 ha
  have hw := hG.w
  refine z_enter (k := 0) rfl rfl rfl ?_
  refine zp_al0 (q := 1) dX1_letGo_0 rfl ?_
  refine zp_il1 (q := 2) dX1_letGo_1 rfl ?_
  refine zf_callV1 (by first | assumption | exact k2 | exact k46 | exact k90) (s_X1_hasWind ha R) mtX1_hasWind wiX1_hasWind weX1_hasWind wlX1_52 (q := 5) dX1_letGo_2 rfl rfl rfl rfl rfl rfl rfl (fun r S9 M9 h8 hP => ?_) (fun k S9 M9 hP => (z_no hP.1 rfl).elim)
  obtain ⟨rfl, rfl, h9⟩ := hP
  subst M9
  rw [if_pos ⟨h0, h1⟩]
  refine zr_if_ne (q := 12) (q2 := 8) dX1_letGo_5 (by decide) rfl (fun h5 => ?_) (fun h5 => ?_)
  · refine zp_al0 (q := 13) dX1_letGo_12 rfl ?_
    refine zf_getG (v := a + 1) 1 (by first | assumption | exact k2 | exact k46 | exact k90) (R.h.p1) rfl fdX1_15 (q := 16) dX1_letGo_13 rfl rfl ?_
    refine zp_il1 (q := 17) dX1_letGo_16 rfl ?_
    refine zf_zald (v := 0) (by first | assumption | exact k518 | exact k519 | exact k520 | exact k521 | exact k522 | exact k523 | exact k524 | exact k525 | exact k526 | exact k527 | exact k528 | exact k510 | exact k512 | exact k515 | exact k516 | exact k507 | exact k509 | exact k135 | exact k489 | exact k529 | exact k530) (by rw [R.st h0 h1, if_neg h2]) (q := 18) dX1_letGo_17 rfl (by omega) (by omega) ?_
    refine zr_if_ne (q := 25) (q2 := 21) dX1_letGo_18 (by decide) rfl (fun h18 => ?_) (fun h18 => ?_)
    · exact absurd rfl h18
    · refine zr_gets (v := (1, -9)) (Cn := "WindElection$Fault") (n := "NOT_STANDING") (d := "LWindElection$Fault;") (fun C s h => zs_F 8 (by decide) h) (fun _ => z_in_of rfl) (z_all_in (i := 714) (by decide +kernel) (by decide +kernel)) dX1_letGo_21 rfl ?_
      refine zr_areturn dX1_letGo_24 rfl (Or.inl ⟨_, rfl⟩) ?_
      exact ⟨rfl, rfl, rfl⟩
  · exact absurd (by decide) h5
/-- ballots other than b are what they were -/
theorem zHa.up {b i : Int} (h : zHa M a) (hb : zBl a b) (h0 : 0 ≤ i) (h1 : i < 20) (e : M (a + 3) i ≠ b) : M (a + 3) i ≠ b + 1 ∧ M (a + 3) i + 1 ≠ b ∧ M (a + 3) i + 1 ≠ b + 1 := by
  have h2 := h.bl h0 h1
  unfold zBl at h2 hb
  omega
theorem s_X1_putBallot (ha : zAs a) (R : zAR M a G) (hG : zWF G) {x f : Int} (hn : G 1 < 20) (hx : 1 ≤ x ∧ x ≤ 99) (hf : 0 ≤ f ∧ f < G 0) : z_Call mX1_putBallot zF [(1, a), (0, x), (0, f)] M (zpA (1, -1) a (gBal G x f) M) := by
  have o0 := zAs_0 ha
  have o3 := zAs_3 ha
  have hn0 := hG.n
  have hb := R.h.bl hn0.1 hn
  have ob := zBl_0 ha hb
  have hb2 := id hb
  unfold zBl at hb2
  refine z_enter (k := 0) rfl rfl rfl ?_
  refine zp_al0 (q := 1) dX1_putBallot_0 rfl ?_
  refine zp_il2 (q := 2) dX1_putBallot_1 rfl ?_
  refine zf_callV1 (by first | assumption | exact k2 | exact k46 | exact k90) (s_X1_hasWind ha R) mtX1_hasWind wiX1_hasWind weX1_hasWind wlX1_52 (q := 5) dX1_putBallot_2 rfl rfl rfl rfl rfl rfl rfl (fun r S9 M9 h8 hP => ?_) (fun k S9 M9 hP => (z_no hP.1 rfl).elim)
  obtain ⟨rfl, rfl, h9⟩ := hP
  subst M9
  rw [if_pos hf]
  refine zr_if_ne (q := 12) (q2 := 8) dX1_putBallot_5 (by decide) rfl (fun h5 => ?_) (fun h5 => ?_)
  · refine zp_il1 (q := 13) dX1_putBallot_12 rfl ?_
    refine zp_callS1 (s_X1_isWeight) mtX1_isWeight wtX1_isWeight wlX1_62 (q := 16) dX1_putBallot_13 rfl rfl rfl rfl rfl (fun r S9 M9 h8 hP => ?_) (fun k S9 M9 hP => (z_no hP.1 rfl).elim)
    obtain ⟨rfl, rfl, h9⟩ := hP
    subst M9
    rw [if_pos hx]
    refine zr_if_ne (q := 23) (q2 := 19) dX1_putBallot_16 (by decide) rfl (fun h16 => ?_) (fun h16 => ?_)
    · refine zp_al0 (q := 24) dX1_putBallot_23 rfl ?_
      refine zf_getG (v := G 1) 4 (by first | assumption | exact k2 | exact k46 | exact k90) (R.n) rfl fdX1_26 (q := 27) dX1_putBallot_24 rfl rfl ?_
      refine zr_bipush (q := 29) dX1_putBallot_27 rfl (z_in_of rfl) (by decide +kernel) ?_
      refine zr_icmp_lt (q := 36) (q2 := 32) dX1_putBallot_29 (by decide) rfl (fun h29 => ?_) (fun h29 => ?_)
      · refine zp_al0 (q := 37) dX1_putBallot_36 rfl ?_
        refine zf_getG (v := a + 3) 5 (by first | assumption | exact k2 | exact k46 | exact k90) (R.h.p3) rfl fdX1_31 (q := 40) dX1_putBallot_37 rfl rfl ?_
        refine zp_al0 (q := 41) dX1_putBallot_40 rfl ?_
        refine zf_getG (v := G 1) 4 (by first | assumption | exact k2 | exact k46 | exact k90) (R.n) rfl fdX1_26 (q := 44) dX1_putBallot_41 rfl rfl ?_
        refine zf_aald (v := _) (by first | assumption | exact k518 | exact k519 | exact k520 | exact k521 | exact k522 | exact k523 | exact k524 | exact k525 | exact k526 | exact k527 | exact k528 | exact k510 | exact k512 | exact k515 | exact k516 | exact k507 | exact k509 | exact k135 | exact k489 | exact k529 | exact k530) (rfl) (by decide) (q := 45) dX1_putBallot_44 rfl (by omega) (by omega) ?_
        refine zp_il1 (q := 46) dX1_putBallot_45 rfl ?_
        refine zp_il2 (q := 47) dX1_putBallot_46 rfl ?_
        refine zf_callV2 (by assumption) (s_X2_start ha hb (R.h.bp hb)) mtX2_start wiX2_start weX2_start wlX1_71 (q := 50) dX1_putBallot_47 rfl rfl rfl rfl rfl rfl rfl (fun r S9 M9 h8 hP => ?_) (fun k S9 M9 hP => (z_no hP.1 rfl).elim)
        obtain ⟨rfl, rfl, h9⟩ := hP
        subst M9
        refine zp_al0 (q := 51) dX1_putBallot_50 rfl ?_
        refine zr_dup (q := 52) dX1_putBallot_51 rfl (Or.inr rfl) ?_
        refine zf_getG (v := G 1) 4 (by first | assumption | exact k2 | exact k46 | exact k90) (by rw [z_up_ne (by omega), z_up_ne (by omega), z_up_ne (by omega)]; exact R.n) rfl fdX1_26 (q := 55) dX1_putBallot_52 rfl rfl ?_
        refine zr_iconst (q := 56) dX1_putBallot_55 rfl (z_in_of rfl) ?_
        refine zr_iadd (q := 57) dX1_putBallot_56 rfl (fun hA hB => by unfold z_in at hA hB ⊢; omega) ?_
        refine zf_putG 4 (by first | assumption | exact k2 | exact k46 | exact k90) rfl fpX1_26 (q := 60) dX1_putBallot_57 rfl rfl (by decide) (z_fit_i _) ?_
        refine zr_gets (v := (1, -1)) (Cn := "WindElection$Fault") (n := "NONE") (d := "LWindElection$Fault;") (fun C s h => zs_F 0 (by decide) h) (fun _ => z_in_of rfl) (z_all_in (i := 435) (by decide +kernel) (by decide +kernel)) dX1_putBallot_60 rfl ?_
        refine zr_areturn dX1_putBallot_63 rfl (Or.inl ⟨_, rfl⟩) ?_
        generalize hM4 : z_up (z_up (z_up (z_up M (M (a + 3) (G 1)) 0 x) (M (a + 3) (G 1)) 1 1) (M (a + 3) (G 1) + 1) 0 f) a 4 (G 1 + 1) = M4
        have f1 : ∀ z, z ≠ a → z ≠ M (a + 3) (G 1) → z ≠ M (a + 3) (G 1) + 1 → M4 z = M z := fun z z1 z2 z3 => by rw [← hM4, z_up_ne z1, z_up_ne z3, z_up_ne z2, z_up_ne z2]
        have f2 : ∀ j, j ≠ 4 → M4 a j = M a j := fun j hj => by rw [← hM4, z_up_sl hj, z_up_ne (by omega), z_up_ne (by omega), z_up_ne (by omega)]
        have e3 := f1 (a + 3) (by omega) (by omega) (by omega)
        have hp : zHa M4 a := ⟨by rw [f2 _ (by decide)]; exact R.h.p1, by rw [f2 _ (by decide)]; exact R.h.p2, by rw [f2 _ (by decide)]; exact R.h.p3, fun i i0 i1 => by rw [e3]; exact R.h.bl i0 i1, fun i j i0 i1 j0 j1 e => by rw [e3] at e; exact R.h.inj i0 i1 j0 j1 e, fun c hc => by
          by_cases ec : c = M (a + 3) (G 1)
          · rw [ec, ← hM4, z_up_ne (by omega), z_up_ne (by omega), z_up_sl (by decide), z_up_sl (by decide)]
            exact R.h.bp hb
          · have hc2 := id hc
            unfold zBl at hc2
            rw [f1 c (by omega) ec (by omega)]
            exact R.h.bp hc, fun w w0 w1 => by rw [f1 (a + 1) (by omega) (by omega) (by omega)]; exact R.h.z1 w0 w1⟩
        refine ⟨rfl, rfl, R.bal hG hp (fun j j0 j1 j2 => by unfold gBal; omega) (f2 _ (by decide)) (f2 _ (by decide)) (f2 _ (by decide)) (f1 _ (by omega) (by omega) (by omega)) (f1 _ (by omega) (by omega) (by omega)) (by rw [← hM4, z_up_eq]; rfl) (fun i i0 i1 => ?_), fun z hz => f1 z (by omega) (by omega) (by omega)⟩
        have e1 : gBal G x f 1 = G 1 + 1 := rfl
        rw [e1] at i1
        by_cases ei : i = G 1
        · subst ei
          have g0 : gBal G x f (20 + 7 * G 1) = x := by unfold gBal; omega
          have g1 : gBal G x f (20 + 7 * G 1 + 1) = 1 := by unfold gBal; omega
          have g2 : gBal G x f (20 + 7 * G 1 + 2) = f := by unfold gBal; omega
          rw [e3, g0, g1]
          refine ⟨by rw [← hM4, z_up_ne (by omega), z_up_ne (by omega), z_up_sl (by decide), z_up_eq], by rw [← hM4, z_up_ne (by omega), z_up_ne (by omega), z_up_eq], fun j j0 j1 => ?_⟩
          rw [show j = 0 by omega, Int.add_zero, g2, ← hM4, z_up_ne (by omega), z_up_eq]
        · have n1 := fun e => ei (R.h.inj i0 (by omega) hn0.1 hn e)
          have n2 := R.h.up hb i0 (by omega) n1
          have n3 := R.h.bl i0 (show i < 20 by omega)
          unfold zBl at n3
          have hz := hG.sz i0 (show i < G 1 by omega)
          have g9 : ∀ k, 0 ≤ k → k < 7 → gBal G x f (20 + 7 * i + k) = G (20 + 7 * i + k) := fun k k0 k1 => by unfold gBal; omega
          have g0 := g9 0 (by omega) (by omega)
          rw [Int.add_zero] at g0
          rw [e3, g0, g9 1 (by omega) (by omega), f1 _ (by omega) n1 n2.1, f1 _ (by omega) n2.2.1 n2.2.2]
          refine ⟨R.bw i0 (by omega), R.bn i0 (by omega), fun j j0 j1 => ?_⟩
          rw [Int.add_assoc (20 + 7 * i) 2 j, g9 (2 + j) (by omega) (by omega), ← Int.add_assoc (20 + 7 * i) 2 j]
          exact R.bj i0 (by omega) j j0 j1
      · exact absurd h29 (by omega)
    · exact absurd (by decide) h16
  · exact absurd (by decide) h5
theorem s_X1_putBallot_x (ha : zAs a) (R : zAR M a G) (hG : zWF G) {x f : Int} (hf : ¬ (0 ≤ f ∧ f < G 0)) : z_Call mX1_putBallot zF [(1, a), (0, x), (0, f)] M (zpF 1 (-2) M) := by
  have o0 := zAs_0 ha
  refine z_enter (k := 0) rfl rfl rfl ?_
  refine zp_al0 (q := 1) dX1_putBallot_0 rfl ?_
  refine zp_il2 (q := 2) dX1_putBallot_1 rfl ?_
  refine zf_callV1 (by first | assumption | exact k2 | exact k46 | exact k90) (s_X1_hasWind ha R) mtX1_hasWind wiX1_hasWind weX1_hasWind wlX1_52 (q := 5) dX1_putBallot_2 rfl rfl rfl rfl rfl rfl rfl (fun r S9 M9 h8 hP => ?_) (fun k S9 M9 hP => (z_no hP.1 rfl).elim)
  obtain ⟨rfl, rfl, h9⟩ := hP
  subst M9
  rw [if_neg hf]
  refine zr_if_ne (q := 12) (q2 := 8) dX1_putBallot_5 (by decide) rfl (fun h5 => ?_) (fun h5 => ?_)
  · exact absurd rfl h5
  · refine zr_gets (v := (1, -2)) (Cn := "WindElection$Fault") (n := "NO_SUCH_WIND") (d := "LWindElection$Fault;") (fun C s h => zs_F 1 (by decide) h) (fun _ => z_in_of rfl) (z_all_in (i := 712) (by decide +kernel) (by decide +kernel)) dX1_putBallot_8 rfl ?_
    refine zr_areturn dX1_putBallot_11 rfl (Or.inl ⟨_, rfl⟩) ?_
    exact ⟨rfl, rfl, rfl⟩
theorem s_X1_putBallot_y (ha : zAs a) (R : zAR M a G) (hG : zWF G) {x f : Int} (hf : 0 ≤ f ∧ f < G 0) (hx : ¬ (1 ≤ x ∧ x ≤ 99)) : z_Call mX1_putBallot zF [(1, a), (0, x), (0, f)] M (zpF 1 (-4) M) := by
  have o0 := zAs_0 ha
  refine z_enter (k := 0) rfl rfl rfl ?_
  refine zp_al0 (q := 1) dX1_putBallot_0 rfl ?_
  refine zp_il2 (q := 2) dX1_putBallot_1 rfl ?_
  refine zf_callV1 (by first | assumption | exact k2 | exact k46 | exact k90) (s_X1_hasWind ha R) mtX1_hasWind wiX1_hasWind weX1_hasWind wlX1_52 (q := 5) dX1_putBallot_2 rfl rfl rfl rfl rfl rfl rfl (fun r S9 M9 h8 hP => ?_) (fun k S9 M9 hP => (z_no hP.1 rfl).elim)
  obtain ⟨rfl, rfl, h9⟩ := hP
  subst M9
  rw [if_pos hf]
  refine zr_if_ne (q := 12) (q2 := 8) dX1_putBallot_5 (by decide) rfl (fun h5 => ?_) (fun h5 => ?_)
  · refine zp_il1 (q := 13) dX1_putBallot_12 rfl ?_
    refine zp_callS1 (s_X1_isWeight) mtX1_isWeight wtX1_isWeight wlX1_62 (q := 16) dX1_putBallot_13 rfl rfl rfl rfl rfl (fun r S9 M9 h8 hP => ?_) (fun k S9 M9 hP => (z_no hP.1 rfl).elim)
    obtain ⟨rfl, rfl, h9⟩ := hP
    subst M9
    rw [if_neg hx]
    refine zr_if_ne (q := 23) (q2 := 19) dX1_putBallot_16 (by decide) rfl (fun h16 => ?_) (fun h16 => ?_)
    · exact absurd rfl h16
    · refine zr_gets (v := (1, -4)) (Cn := "WindElection$Fault") (n := "WEIGHT_OUT_OF_RANGE") (d := "LWindElection$Fault;") (fun C s h => zs_F 3 (by decide) h) (fun _ => z_in_of rfl) (z_all_in (i := 750) (by decide +kernel) (by decide +kernel)) dX1_putBallot_19 rfl ?_
      refine zr_areturn dX1_putBallot_22 rfl (Or.inl ⟨_, rfl⟩) ?_
      exact ⟨rfl, rfl, rfl⟩
  · exact absurd (by decide) h5
theorem s_X1_putBallot_z (ha : zAs a) (R : zAR M a G) (hG : zWF G) {x f : Int} (hf : 0 ≤ f ∧ f < G 0) (hx : 1 ≤ x ∧ x ≤ 99) (hn : ¬ G 1 < 20) : z_Call mX1_putBallot zF [(1, a), (0, x), (0, f)] M (zpF 1 (-7) M) := by
  have o0 := zAs_0 ha
  refine z_enter (k := 0) rfl rfl rfl ?_
  refine zp_al0 (q := 1) dX1_putBallot_0 rfl ?_
  refine zp_il2 (q := 2) dX1_putBallot_1 rfl ?_
  refine zf_callV1 (by first | assumption | exact k2 | exact k46 | exact k90) (s_X1_hasWind ha R) mtX1_hasWind wiX1_hasWind weX1_hasWind wlX1_52 (q := 5) dX1_putBallot_2 rfl rfl rfl rfl rfl rfl rfl (fun r S9 M9 h8 hP => ?_) (fun k S9 M9 hP => (z_no hP.1 rfl).elim)
  obtain ⟨rfl, rfl, h9⟩ := hP
  subst M9
  rw [if_pos hf]
  refine zr_if_ne (q := 12) (q2 := 8) dX1_putBallot_5 (by decide) rfl (fun h5 => ?_) (fun h5 => ?_)
  · refine zp_il1 (q := 13) dX1_putBallot_12 rfl ?_
    refine zp_callS1 (s_X1_isWeight) mtX1_isWeight wtX1_isWeight wlX1_62 (q := 16) dX1_putBallot_13 rfl rfl rfl rfl rfl (fun r S9 M9 h8 hP => ?_) (fun k S9 M9 hP => (z_no hP.1 rfl).elim)
    obtain ⟨rfl, rfl, h9⟩ := hP
    subst M9
    rw [if_pos hx]
    refine zr_if_ne (q := 23) (q2 := 19) dX1_putBallot_16 (by decide) rfl (fun h16 => ?_) (fun h16 => ?_)
    · refine zp_al0 (q := 24) dX1_putBallot_23 rfl ?_
      refine zf_getG (v := G 1) 4 (by first | assumption | exact k2 | exact k46 | exact k90) (R.n) rfl fdX1_26 (q := 27) dX1_putBallot_24 rfl rfl ?_
      refine zr_bipush (q := 29) dX1_putBallot_27 rfl (z_in_of rfl) (by decide +kernel) ?_
      refine zr_icmp_lt (q := 36) (q2 := 32) dX1_putBallot_29 (by decide) rfl (fun h29 => ?_) (fun h29 => ?_)
      · exact absurd h29 hn
      · refine zr_gets (v := (1, -7)) (Cn := "WindElection$Fault") (n := "TOO_MANY_BALLOTS") (d := "LWindElection$Fault;") (fun C s h => zs_F 6 (by decide) h) (fun _ => z_in_of rfl) (z_all_in (i := 752) (by decide +kernel) (by decide +kernel)) dX1_putBallot_32 rfl ?_
        refine zr_areturn dX1_putBallot_35 rfl (Or.inl ⟨_, rfl⟩) ?_
        exact ⟨rfl, rfl, rfl⟩
    · exact absurd (by decide) h16
  · exact absurd (by decide) h5
end ZKC
