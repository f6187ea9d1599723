/-! dep: 40 41 42 43 -/
/-! ===== WindElection: what changes the assembly, and can be undone ===== -/
/-- the history's own pointers and numbers -/
def zHh (M : zM) : Prop := M 134 0 = 135 ∧ (0 ≤ M 134 1 ∧ M 134 1 < 8) ∧ (0 ≤ M 134 2 ∧ M 134 2 ≤ 8) ∧ ∀ k, 0 ≤ k → k < 8 → M 135 k = 136 + 44 * k ∧ zHa M (136 + 44 * k)
def zNx (M : zM) : Int := (M 134 1 + M 134 2) % 8
/-- G has been put into the history -/
def zRm (M M' : zM) (G : Int → Int) : Prop := zAR M' (136 + 44 * zNx M) G ∧ M' 134 0 = M 134 0 ∧ (M 134 2 < 8 → M' 134 1 = M 134 1 ∧ M' 134 2 = M 134 2 + 1) ∧ (M 134 2 = 8 → M' 134 1 = (M 134 1 + 1) % 8 ∧ M' 134 2 = 8)
theorem as136 {k : Int} (h0 : 0 ≤ k) (h1 : k < 8) : zAs (136 + 44 * k) := by
  unfold zAs
  omega
section ZC6
variable {M : zM} {G : Int → Int}
theorem s_X5_remember (Hh : zHh M) (R : zAR M 46 G) (hG : zWF G) : z_Call mX5_remember zF [(1, 134), (1, 46)] M (fun r S' M' => r = (9, 0) ∧ S' = zF ∧ zRm M M' G ∧ ∀ z, z ≠ 134 → z < 136 + 44 * zNx M ∨ 180 + 44 * zNx M ≤ z → M' z = M z) := by
  obtain ⟨q0, q1, q2, q3⟩ := id Hh
  have hp0 : 0 ≤ zNx M ∧ zNx M < 8 := by unfold zNx; omega
  have hp := q3 (zNx M) hp0.1 hp0.2
  have ap := as136 hp0.1 hp0.2
  have op := zAs_0 ap
  refine z_enter (k := 0) rfl rfl rfl ?_
  refine zp_al0 (q := 1) dX5_remember_0 rfl ?_
  refine zf_getG (v := 135) 0 (k134) (q0) rfl fdX5_11 (q := 4) dX5_remember_1 rfl rfl ?_
  refine zp_al0 (q := 5) dX5_remember_4 rfl ?_
  refine zf_getG (v := _) 1 (k134) (rfl) rfl fdX5_17 (q := 8) dX5_remember_5 rfl rfl ?_
  refine zp_al0 (q := 9) dX5_remember_8 rfl ?_
  refine zf_getG (v := _) 2 (k134) (rfl) rfl fdX5_21 (q := 12) dX5_remember_9 rfl rfl ?_
  refine zr_iadd (q := 13) dX5_remember_12 rfl (fun hA hB => by unfold z_in at hA hB ⊢; omega) ?_
  refine zr_bipush (q := 15) dX5_remember_13 rfl (z_in_of rfl) (by decide +kernel) ?_
  refine zr_irem (q := 16) dX5_remember_15 rfl (by omega) (by omega) ?_
  refine zf_aald (v := 136 + 44 * zNx M) (by first | assumption | exact k518 | exact k519 | exact k520 | exact k521 | exact k522 | exact k523 | exact k524 | exact k525 | exact k526 | exact k527 | exact k528 | exact k510 | exact k512 | exact k515 | exact k516 | exact k507 | exact k509 | exact k135 | exact k489 | exact k529 | exact k530) (hp.1) (by decide) (q := 17) dX5_remember_16 rfl (by omega) (by omega) ?_
  refine zp_al1 (q := 18) dX5_remember_17 rfl ?_
  refine zf_callV1 (op) (s_X1_copyFrom ap as46 (by omega) hp.2 R hG) mtX1_copyFrom wiX1_copyFrom weX1_copyFrom wlX5_25 (q := 21) dX5_remember_18 rfl rfl rfl rfl rfl rfl rfl (fun r S9 M9 h8 hP => ?_) (fun k S9 M9 hP => (z_no hP.1 rfl).elim)
  obtain ⟨rfl, rfl, R9, F9⟩ := hP
  have e9 : M9 134 = M 134 := F9 134 (by omega)
  refine zp_al0 (q := 22) dX5_remember_21 rfl ?_
  refine zf_getG (v := M 134 2) 2 (k134) (by rw [e9]) rfl fdX5_21 (q := 25) dX5_remember_22 rfl rfl ?_
  refine zr_bipush (q := 27) dX5_remember_25 rfl (z_in_of rfl) (by decide +kernel) ?_
  refine zr_icmp_ge (q := 43) (q2 := 30) dX5_remember_27 (by decide) rfl (fun h27 => ?_) (fun h27 => ?_)
  · refine zp_al0 (q := 44) dX5_remember_43 rfl ?_
    refine zp_al0 (q := 45) dX5_remember_44 rfl ?_
    refine zf_getG (v := M 134 1) 1 (k134) (by rw [e9]) rfl fdX5_17 (q := 48) dX5_remember_45 rfl rfl ?_
    refine zr_iconst (q := 49) dX5_remember_48 rfl (z_in_of rfl) ?_
    refine zr_iadd (q := 50) dX5_remember_49 rfl (fun hA hB => by unfold z_in at hA hB ⊢; omega) ?_
    refine zr_bipush (q := 52) dX5_remember_50 rfl (z_in_of rfl) (by decide +kernel) ?_
    refine zr_irem (q := 53) dX5_remember_52 rfl (by omega) (by omega) ?_
    refine zf_putG 1 (k134) rfl fpX5_17 (q := 56) dX5_remember_53 rfl rfl (by decide) (z_fit_i _) ?_
    refine zr_return dX5_remember_56 rfl ?_
    first
    | exact ⟨rfl, rfl, ⟨R9.of hG (fun z z0 z1 => z_up_ne (by omega)), by rw [z_up_sl (by decide), e9], fun _ => ⟨by rw [z_up_sl (by decide), e9], z_up_eq⟩, fun h => by omega⟩, fun z z0 z1 => by rw [z_up_ne z0]; exact F9 z (by omega)⟩
    | exact ⟨rfl, rfl, ⟨R9.of hG (fun z z0 z1 => z_up_ne (by omega)), by rw [z_up_sl (by decide), e9], fun h => by omega, fun h => ⟨z_up_eq, by rw [z_up_sl (by decide), e9]; exact h⟩⟩, fun z z0 z1 => by rw [z_up_ne z0]; exact F9 z (by omega)⟩
  · refine zp_al0 (q := 31) dX5_remember_30 rfl ?_
    refine zr_dup (q := 32) dX5_remember_31 rfl (Or.inr rfl) ?_
    refine zf_getG (v := M 134 2) 2 (k134) (by rw [e9]) rfl fdX5_21 (q := 35) dX5_remember_32 rfl rfl ?_
    refine zr_iconst (q := 36) dX5_remember_35 rfl (z_in_of rfl) ?_
    refine zr_iadd (q := 37) dX5_remember_36 rfl (fun hA hB => by unfold z_in at hA hB ⊢; omega) ?_
    refine zf_putG 2 (k134) rfl fpX5_21 (q := 40) dX5_remember_37 rfl rfl (by decide) (z_fit_i _) ?_
    refine zr_goto (q := 56) dX5_remember_40 (by decide) ?_
    refine zr_return dX5_remember_56 rfl ?_
    first
    | exact ⟨rfl, rfl, ⟨R9.of hG (fun z z0 z1 => z_up_ne (by omega)), by rw [z_up_sl (by decide), e9], fun _ => ⟨by rw [z_up_sl (by decide), e9], z_up_eq⟩, fun h => by omega⟩, fun z z0 z1 => by rw [z_up_ne z0]; exact F9 z (by omega)⟩
    | exact ⟨rfl, rfl, ⟨R9.of hG (fun z z0 z1 => z_up_ne (by omega)), by rw [z_up_sl (by decide), e9], fun h => by omega, fun h => ⟨z_up_eq, by rw [z_up_sl (by decide), e9]; exact h⟩⟩, fun z z0 z1 => by rw [z_up_ne z0]; exact F9 z (by omega)⟩
theorem s_X5_forget : z_Call mX5_forget zF [(1, 134)] M (zpF 9 0 (z_up M 134 2 0)) := by
  refine z_enter (k := 0) rfl rfl rfl ?_
  refine zp_al0 (q := 1) dX5_forget_0 rfl ?_
  refine zr_iconst (q := 2) dX5_forget_1 rfl (z_in_of rfl) ?_
  refine zf_putG 2 (k134) rfl fpX5_21 (q := 5) dX5_forget_2 rfl rfl (by decide) (z_fit_i _) ?_
  refine zr_return dX5_forget_5 rfl ?_
  exact ⟨rfl, rfl, rfl⟩
theorem s_X5_takeBack_x (h : M 134 2 = 0) : z_Call mX5_takeBack zF [(1, 134), (1, 2)] M (zpF 0 0 M) := by
  refine z_enter (k := 0) rfl rfl rfl ?_
  refine zp_al0 (q := 1) dX5_takeBack_0 rfl ?_
  refine zf_getG (v := _) 2 (k134) (rfl) rfl fdX5_21 (q := 4) dX5_takeBack_1 rfl rfl ?_
  refine zr_if_ne (q := 9) (q2 := 7) dX5_takeBack_4 (by decide) rfl (fun h4 => ?_) (fun h4 => ?_)
  · exact absurd h h4
  · refine zr_iconst (q := 8) dX5_takeBack_7 rfl (z_in_of rfl) ?_
    refine zr_ireturn dX5_takeBack_8 rfl (z_fit_z (by decide)) ?_
    exact ⟨rfl, rfl, rfl⟩
/-- the state that was put in last -/
def zLs (M : zM) : Int := (M 134 1 + (M 134 2 - 1)) % 8
theorem s_X5_takeBack (Hh : zHh M) (h : 0 < M 134 2) (Ha : zHa M 2) (R : zAR M (136 + 44 * zLs M) G) (hG : zWF G) : z_Call mX5_takeBack zF [(1, 134), (1, 2)] M (fun r S' M' => r = (0, 1) ∧ S' = zF ∧ zAR M' 2 G ∧ M' 134 2 = M 134 2 - 1 ∧ (∀ j, j ≠ 2 → M' 134 j = M 134 j) ∧ ∀ z, z ≠ 134 → z < 2 ∨ 46 ≤ z → M' z = M z) := by
  obtain ⟨q0, q1, q2, q3⟩ := id Hh
  have hp0 : 0 ≤ zLs M ∧ zLs M < 8 := by unfold zLs; omega
  have hp := q3 (zLs M) hp0.1 hp0.2
  have ap := as136 hp0.1 hp0.2
  have op := zAs_0 ap
  refine z_enter (k := 0) rfl rfl rfl ?_
  refine zp_al0 (q := 1) dX5_takeBack_0 rfl ?_
  refine zf_getG (v := _) 2 (k134) (rfl) rfl fdX5_21 (q := 4) dX5_takeBack_1 rfl rfl ?_
  refine zr_if_ne (q := 9) (q2 := 7) dX5_takeBack_4 (by decide) rfl (fun h4 => ?_) (fun h4 => ?_)
  · refine zp_al0 (q := 10) dX5_takeBack_9 rfl ?_
    refine zr_dup (q := 11) dX5_takeBack_10 rfl (Or.inr rfl) ?_
    refine zf_getG (v := M 134 2) 2 (k134) (rfl) rfl fdX5_21 (q := 14) dX5_takeBack_11 rfl rfl ?_
    refine zr_iconst (q := 15) dX5_takeBack_14 rfl (z_in_of rfl) ?_
    refine zr_isub (q := 16) dX5_takeBack_15 rfl (fun hA hB => by unfold z_in at hA hB ⊢; omega) ?_
    refine zf_putG 2 (k134) rfl fpX5_21 (q := 19) dX5_takeBack_16 rfl rfl (by decide) (z_fit_i _) ?_
    refine zp_al1 (q := 20) dX5_takeBack_19 rfl ?_
    refine zp_al0 (q := 21) dX5_takeBack_20 rfl ?_
    refine zf_getG (v := 135) 0 (k134) (by rw [z_up_sl (by decide)]; exact q0) rfl fdX5_11 (q := 24) dX5_takeBack_21 rfl rfl ?_
    refine zp_al0 (q := 25) dX5_takeBack_24 rfl ?_
    refine zf_getG (v := M 134 1) 1 (k134) (z_up_sl (by decide)) rfl fdX5_17 (q := 28) dX5_takeBack_25 rfl rfl ?_
    refine zp_al0 (q := 29) dX5_takeBack_28 rfl ?_
    refine zf_getG (v := M 134 2 - 1) 2 (k134) (z_up_eq) rfl fdX5_21 (q := 32) dX5_takeBack_29 rfl rfl ?_
    refine zr_iadd (q := 33) dX5_takeBack_32 rfl (fun hA hB => by unfold z_in at hA hB ⊢; omega) ?_
    refine zr_bipush (q := 35) dX5_takeBack_33 rfl (z_in_of rfl) (by decide +kernel) ?_
    refine zr_irem (q := 36) dX5_takeBack_35 rfl (by omega) (by omega) ?_
    refine zf_aald (v := 136 + 44 * zLs M) (by first | assumption | exact k518 | exact k519 | exact k520 | exact k521 | exact k522 | exact k523 | exact k524 | exact k525 | exact k526 | exact k527 | exact k528 | exact k510 | exact k512 | exact k515 | exact k516 | exact k507 | exact k509 | exact k135 | exact k489 | exact k529 | exact k530) (by rw [z_up_ne (by decide)]; exact hp.1) (by decide) (q := 37) dX5_takeBack_36 rfl (by omega) (by omega) ?_
    refine zf_callV1 (by first | assumption | exact k2 | exact k46 | exact k90) (s_X1_copyFrom (M := z_up M 134 2 (M 134 2 - 1)) as2 ap (by omega) (Ha.of (fun z z0 z1 => z_up_ne (by omega))) (R.of hG (fun z z0 z1 => z_up_ne (by omega))) hG) mtX1_copyFrom wiX1_copyFrom weX1_copyFrom wlX5_25 (q := 40) dX5_takeBack_37 rfl rfl rfl rfl rfl rfl rfl (fun r S9 M9 h8 hP => ?_) (fun k S9 M9 hP => (z_no hP.1 rfl).elim)
    obtain ⟨rfl, rfl, R9, F9⟩ := hP
    have e9 : M9 134 = z_up M 134 2 (M 134 2 - 1) 134 := F9 134 (by omega)
    refine zr_iconst (q := 41) dX5_takeBack_40 rfl (z_in_of rfl) ?_
    refine zr_ireturn dX5_takeBack_41 rfl (z_fit_z (by decide)) ?_
    exact ⟨rfl, rfl, R9, by rw [e9, z_up_eq], fun j hj => by rw [e9, z_up_sl hj], fun z z0 z1 => (F9 z z1).trans (z_up_ne z0)⟩
  · exact absurd h4 (by omega)
theorem s_X11_refuse_0 : z_Call mX11_refuse zF [(1, -1)] M (zpF 9 0 M) := by
  refine z_enter (k := 0) rfl rfl rfl ?_
  refine zr_gets (v := (1, -20)) (Cn := "WindElection$1") (n := "$SwitchMap$WindElection$Fault") (d := "[I") (fun C s h => zs_SF h) (fun _ => z_in_of rfl) (z_all_in (i := 444) (by decide +kernel) (by decide +kernel)) dX11_refuse_0 rfl ?_
  refine zp_al0 (q := 4) dX11_refuse_3 rfl ?_
  refine zr_ordF (i := 0) (q := 7) (by decide) rfl rfl dX11_refuse_4 rfl rfl rfl rfl ?_
  refine zr_mapF (q := 8) dX11_refuse_7 rfl (by decide) (by decide) ?_
  refine zr_tableOut (q := 158) dX11_refuse_8 (by decide) (by decide) ?_
  refine zr_return dX11_refuse_158 rfl ?_
  exact ⟨rfl, rfl, rfl⟩
theorem s_X11_refuse_1 : z_Call mX11_refuse zF [(1, -2)] M (zpF 8 0 M) := by
  refine z_enter (k := 0) rfl rfl rfl ?_
  refine zr_gets (v := (1, -20)) (Cn := "WindElection$1") (n := "$SwitchMap$WindElection$Fault") (d := "[I") (fun C s h => zs_SF h) (fun _ => z_in_of rfl) (z_all_in (i := 444) (by decide +kernel) (by decide +kernel)) dX11_refuse_0 rfl ?_
  refine zp_al0 (q := 4) dX11_refuse_3 rfl ?_
  refine zr_ordF (i := 1) (q := 7) (by decide) rfl rfl dX11_refuse_4 rfl rfl rfl rfl ?_
  refine zr_mapF (q := 8) dX11_refuse_7 rfl (by decide) (by decide) ?_
  refine zr_tableIn (q := 60) (off := 52) dX11_refuse_8 (by decide) (by decide) rfl (by decide) ?_
  refine zr_throwSW (i := 0) th_0 rfl (by decide) rfl rfl dX11_refuse_60 dX11_refuse_63 dX11_refuse_64 dX11_refuse_67 dX11_refuse_70 (by decide) rfl (by decide) (by decide) (by decide) ?_
  exact ⟨rfl, rfl, rfl⟩
theorem s_X11_refuse_2 : z_Call mX11_refuse zF [(1, -3)] M (zpF 8 0 M) := by
  refine z_enter (k := 0) rfl rfl rfl ?_
  refine zr_gets (v := (1, -20)) (Cn := "WindElection$1") (n := "$SwitchMap$WindElection$Fault") (d := "[I") (fun C s h => zs_SF h) (fun _ => z_in_of rfl) (z_all_in (i := 444) (by decide +kernel) (by decide +kernel)) dX11_refuse_0 rfl ?_
  refine zp_al0 (q := 4) dX11_refuse_3 rfl ?_
  refine zr_ordF (i := 2) (q := 7) (by decide) rfl rfl dX11_refuse_4 rfl rfl rfl rfl ?_
  refine zr_mapF (q := 8) dX11_refuse_7 rfl (by decide) (by decide) ?_
  refine zr_tableIn (q := 71) (off := 63) dX11_refuse_8 (by decide) (by decide) rfl (by decide) ?_
  refine zr_throwSW (i := 1) th_0 rfl (by decide) rfl rfl dX11_refuse_71 dX11_refuse_74 dX11_refuse_75 dX11_refuse_78 dX11_refuse_81 (by decide) rfl (by decide) (by decide) (by decide) ?_
  exact ⟨rfl, rfl, rfl⟩
theorem s_X11_refuse_3 : z_Call mX11_refuse zF [(1, -4)] M (zpF 8 1 M) := by
  refine z_enter (k := 0) rfl rfl rfl ?_
  refine zr_gets (v := (1, -20)) (Cn := "WindElection$1") (n := "$SwitchMap$WindElection$Fault") (d := "[I") (fun C s h => zs_SF h) (fun _ => z_in_of rfl) (z_all_in (i := 444) (by decide +kernel) (by decide +kernel)) dX11_refuse_0 rfl ?_
  refine zp_al0 (q := 4) dX11_refuse_3 rfl ?_
  refine zr_ordF (i := 3) (q := 7) (by decide) rfl rfl dX11_refuse_4 rfl rfl rfl rfl ?_
  refine zr_mapF (q := 8) dX11_refuse_7 rfl (by decide) (by decide) ?_
  refine zr_tableIn (q := 82) (off := 74) dX11_refuse_8 (by decide) (by decide) rfl (by decide) ?_
  refine zr_throwSW (i := 2) th_1 rfl (by decide) rfl rfl dX11_refuse_82 dX11_refuse_85 dX11_refuse_86 dX11_refuse_89 dX11_refuse_92 (by decide) rfl (by decide) (by decide) (by decide) ?_
  exact ⟨rfl, rfl, rfl⟩
theorem s_X11_refuse_4 : z_Call mX11_refuse zF [(1, -5)] M (zpF 8 1 M) := by
  refine z_enter (k := 0) rfl rfl rfl ?_
  refine zr_gets (v := (1, -20)) (Cn := "WindElection$1") (n := "$SwitchMap$WindElection$Fault") (d := "[I") (fun C s h => zs_SF h) (fun _ => z_in_of rfl) (z_all_in (i := 444) (by decide +kernel) (by decide +kernel)) dX11_refuse_0 rfl ?_
  refine zp_al0 (q := 4) dX11_refuse_3 rfl ?_
  refine zr_ordF (i := 4) (q := 7) (by decide) rfl rfl dX11_refuse_4 rfl rfl rfl rfl ?_
  refine zr_mapF (q := 8) dX11_refuse_7 rfl (by decide) (by decide) ?_
  refine zr_tableIn (q := 93) (off := 85) dX11_refuse_8 (by decide) (by decide) rfl (by decide) ?_
  refine zr_throwSW (i := 3) th_1 rfl (by decide) rfl rfl dX11_refuse_93 dX11_refuse_96 dX11_refuse_97 dX11_refuse_100 dX11_refuse_103 (by decide) rfl (by decide) (by decide) (by decide) ?_
  exact ⟨rfl, rfl, rfl⟩
theorem s_X11_refuse_5 : z_Call mX11_refuse zF [(1, -6)] M (zpF 8 2 M) := by
  refine z_enter (k := 0) rfl rfl rfl ?_
  refine zr_gets (v := (1, -20)) (Cn := "WindElection$1") (n := "$SwitchMap$WindElection$Fault") (d := "[I") (fun C s h => zs_SF h) (fun _ => z_in_of rfl) (z_all_in (i := 444) (by decide +kernel) (by decide +kernel)) dX11_refuse_0 rfl ?_
  refine zp_al0 (q := 4) dX11_refuse_3 rfl ?_
  refine zr_ordF (i := 5) (q := 7) (by decide) rfl rfl dX11_refuse_4 rfl rfl rfl rfl ?_
  refine zr_mapF (q := 8) dX11_refuse_7 rfl (by decide) (by decide) ?_
  refine zr_tableIn (q := 104) (off := 96) dX11_refuse_8 (by decide) (by decide) rfl (by decide) ?_
  refine zr_throwSW (i := 4) th_2 rfl (by decide) rfl rfl dX11_refuse_104 dX11_refuse_107 dX11_refuse_108 dX11_refuse_111 dX11_refuse_114 (by decide) rfl (by decide) (by decide) (by decide) ?_
  exact ⟨rfl, rfl, rfl⟩
theorem s_X11_refuse_6 : z_Call mX11_refuse zF [(1, -7)] M (zpF 8 2 M) := by
  refine z_enter (k := 0) rfl rfl rfl ?_
  refine zr_gets (v := (1, -20)) (Cn := "WindElection$1") (n := "$SwitchMap$WindElection$Fault") (d := "[I") (fun C s h => zs_SF h) (fun _ => z_in_of rfl) (z_all_in (i := 444) (by decide +kernel) (by decide +kernel)) dX11_refuse_0 rfl ?_
  refine zp_al0 (q := 4) dX11_refuse_3 rfl ?_
  refine zr_ordF (i := 6) (q := 7) (by decide) rfl rfl dX11_refuse_4 rfl rfl rfl rfl ?_
  refine zr_mapF (q := 8) dX11_refuse_7 rfl (by decide) (by decide) ?_
  refine zr_tableIn (q := 115) (off := 107) dX11_refuse_8 (by decide) (by decide) rfl (by decide) ?_
  refine zr_throwSW (i := 5) th_2 rfl (by decide) rfl rfl dX11_refuse_115 dX11_refuse_118 dX11_refuse_119 dX11_refuse_122 dX11_refuse_125 (by decide) rfl (by decide) (by decide) (by decide) ?_
  exact ⟨rfl, rfl, rfl⟩
theorem s_X11_refuse_7 : z_Call mX11_refuse zF [(1, -8)] M (zpF 8 2 M) := by
  refine z_enter (k := 0) rfl rfl rfl ?_
  refine zr_gets (v := (1, -20)) (Cn := "WindElection$1") (n := "$SwitchMap$WindElection$Fault") (d := "[I") (fun C s h => zs_SF h) (fun _ => z_in_of rfl) (z_all_in (i := 444) (by decide +kernel) (by decide +kernel)) dX11_refuse_0 rfl ?_
  refine zp_al0 (q := 4) dX11_refuse_3 rfl ?_
  refine zr_ordF (i := 7) (q := 7) (by decide) rfl rfl dX11_refuse_4 rfl rfl rfl rfl ?_
  refine zr_mapF (q := 8) dX11_refuse_7 rfl (by decide) (by decide) ?_
  refine zr_tableIn (q := 126) (off := 118) dX11_refuse_8 (by decide) (by decide) rfl (by decide) ?_
  refine zr_throwSW (i := 6) th_2 rfl (by decide) rfl rfl dX11_refuse_126 dX11_refuse_129 dX11_refuse_130 dX11_refuse_133 dX11_refuse_136 (by decide) rfl (by decide) (by decide) (by decide) ?_
  exact ⟨rfl, rfl, rfl⟩
theorem s_X11_refuse_8 : z_Call mX11_refuse zF [(1, -9)] M (zpF 8 2 M) := by
  refine z_enter (k := 0) rfl rfl rfl ?_
  refine zr_gets (v := (1, -20)) (Cn := "WindElection$1") (n := "$SwitchMap$WindElection$Fault") (d := "[I") (fun C s h => zs_SF h) (fun _ => z_in_of rfl) (z_all_in (i := 444) (by decide +kernel) (by decide +kernel)) dX11_refuse_0 rfl ?_
  refine zp_al0 (q := 4) dX11_refuse_3 rfl ?_
  refine zr_ordF (i := 8) (q := 7) (by decide) rfl rfl dX11_refuse_4 rfl rfl rfl rfl ?_
  refine zr_mapF (q := 8) dX11_refuse_7 rfl (by decide) (by decide) ?_
  refine zr_tableIn (q := 137) (off := 129) dX11_refuse_8 (by decide) (by decide) rfl (by decide) ?_
  refine zr_throwSW (i := 7) th_2 rfl (by decide) rfl rfl dX11_refuse_137 dX11_refuse_140 dX11_refuse_141 dX11_refuse_144 dX11_refuse_147 (by decide) rfl (by decide) (by decide) (by decide) ?_
  exact ⟨rfl, rfl, rfl⟩
theorem s_X11_refuse_9 : z_Call mX11_refuse zF [(1, -10)] M (zpF 8 4 M) := by
  refine z_enter (k := 0) rfl rfl rfl ?_
  refine zr_gets (v := (1, -20)) (Cn := "WindElection$1") (n := "$SwitchMap$WindElection$Fault") (d := "[I") (fun C s h => zs_SF h) (fun _ => z_in_of rfl) (z_all_in (i := 444) (by decide +kernel) (by decide +kernel)) dX11_refuse_0 rfl ?_
  refine zp_al0 (q := 4) dX11_refuse_3 rfl ?_
  refine zr_ordF (i := 9) (q := 7) (by decide) rfl rfl dX11_refuse_4 rfl rfl rfl rfl ?_
  refine zr_mapF (q := 8) dX11_refuse_7 rfl (by decide) (by decide) ?_
  refine zr_tableIn (q := 148) (off := 140) dX11_refuse_8 (by decide) (by decide) rfl (by decide) ?_
  refine zr_throwN (i := 8) th_4 rfl (by decide) rfl rfl dX11_refuse_148 dX11_refuse_151 dX11_refuse_152 dX11_refuse_154 dX11_refuse_157 (by decide) rfl (by decide) (by decide) (by decide) ?_
  exact ⟨rfl, rfl, rfl⟩
theorem s_X11_settle (Hw : zHw M) (Hh : zHh M) (R : zAR M 46 G) (hG : zWF G) : z_Call mX11_settle zF [(1, 1), (1, -1)] M (fun r S' M' => r = (9, 0) ∧ S' = zF ∧ zRm M M' G ∧ ∀ z, z ≠ 134 → z < 136 + 44 * zNx M ∨ 180 + 44 * zNx M ≤ z → M' z = M z) := by
  refine z_enter (k := 0) rfl rfl rfl ?_
  refine zp_al1 (q := 1) dX11_settle_0 rfl ?_
  refine zp_callS1 (s_X11_refuse_0) mtX11_refuse wtX11_refuse wlX11_336 (q := 4) dX11_settle_1 rfl rfl rfl rfl rfl (fun r S9 M9 h8 hP => ?_) (fun k S9 M9 hP => (z_no hP.1 rfl).elim)
  obtain ⟨rfl, rfl, h9⟩ := hP
  subst M9
  refine zp_al0 (q := 5) dX11_settle_4 rfl ?_
  refine zf_getG (v := 134) 4 (k1) (Hw.hi) rfl fdX11_29 (q := 8) dX11_settle_5 rfl rfl ?_
  refine zp_al0 (q := 9) dX11_settle_8 rfl ?_
  refine zf_getG (v := 46) 1 (k1) (Hw.be) rfl fdX11_16 (q := 12) dX11_settle_9 rfl rfl ?_
  refine zf_callV1 (k134) (s_X5_remember Hh R hG) mtX5_remember wiX5_remember weX5_remember wlX11_339 (q := 15) dX11_settle_12 rfl rfl rfl rfl rfl rfl rfl (fun r S9 M9 h8 hP => ?_) (fun k S9 M9 hP => (z_no hP.1 rfl).elim)
  obtain ⟨rfl, rfl, x1, x2⟩ := hP
  refine zr_return dX11_settle_15 rfl ?_
  exact ⟨rfl, rfl, x1, x2⟩
theorem s_X11_settle_1 : z_Call mX11_settle zF [(1, 1), (1, -2)] M (zpF 8 0 M) := by
  refine z_enter (k := 0) rfl rfl rfl ?_
  refine zp_al1 (q := 1) dX11_settle_0 rfl ?_
  refine zp_callS1 (s_X11_refuse_1) mtX11_refuse wtX11_refuse wlX11_336 (q := 4) dX11_settle_1 rfl rfl rfl rfl rfl (fun r S9 M9 h8 hP => absurd (congrArg Prod.fst hP.1) h8) (fun k S9 M9 hP => ?_)
  obtain ⟨h8, rfl, h9⟩ := hP
  subst M9
  cases h8
  exact ⟨rfl, rfl, rfl⟩
theorem s_X11_settle_2 : z_Call mX11_settle zF [(1, 1), (1, -3)] M (zpF 8 0 M) := by
  refine z_enter (k := 0) rfl rfl rfl ?_
  refine zp_al1 (q := 1) dX11_settle_0 rfl ?_
  refine zp_callS1 (s_X11_refuse_2) mtX11_refuse wtX11_refuse wlX11_336 (q := 4) dX11_settle_1 rfl rfl rfl rfl rfl (fun r S9 M9 h8 hP => absurd (congrArg Prod.fst hP.1) h8) (fun k S9 M9 hP => ?_)
  obtain ⟨h8, rfl, h9⟩ := hP
  subst M9
  cases h8
  exact ⟨rfl, rfl, rfl⟩
theorem s_X11_settle_3 : z_Call mX11_settle zF [(1, 1), (1, -4)] M (zpF 8 1 M) := by
  refine z_enter (k := 0) rfl rfl rfl ?_
  refine zp_al1 (q := 1) dX11_settle_0 rfl ?_
  refine zp_callS1 (s_X11_refuse_3) mtX11_refuse wtX11_refuse wlX11_336 (q := 4) dX11_settle_1 rfl rfl rfl rfl rfl (fun r S9 M9 h8 hP => absurd (congrArg Prod.fst hP.1) h8) (fun k S9 M9 hP => ?_)
  obtain ⟨h8, rfl, h9⟩ := hP
  subst M9
  cases h8
  exact ⟨rfl, rfl, rfl⟩
theorem s_X11_settle_4 : z_Call mX11_settle zF [(1, 1), (1, -5)] M (zpF 8 1 M) := by
  refine z_enter (k := 0) rfl rfl rfl ?_
  refine zp_al1 (q := 1) dX11_settle_0 rfl ?_
  refine zp_callS1 (s_X11_refuse_4) mtX11_refuse wtX11_refuse wlX11_336 (q := 4) dX11_settle_1 rfl rfl rfl rfl rfl (fun r S9 M9 h8 hP => absurd (congrArg Prod.fst hP.1) h8) (fun k S9 M9 hP => ?_)
  obtain ⟨h8, rfl, h9⟩ := hP
  subst M9
  cases h8
  exact ⟨rfl, rfl, rfl⟩
theorem s_X11_settle_5 : z_Call mX11_settle zF [(1, 1), (1, -6)] M (zpF 8 2 M) := by
  refine z_enter (k := 0) rfl rfl rfl ?_
  refine zp_al1 (q := 1) dX11_settle_0 rfl ?_
  refine zp_callS1 (s_X11_refuse_5) mtX11_refuse wtX11_refuse wlX11_336 (q := 4) dX11_settle_1 rfl rfl rfl rfl rfl (fun r S9 M9 h8 hP => absurd (congrArg Prod.fst hP.1) h8) (fun k S9 M9 hP => ?_)
  obtain ⟨h8, rfl, h9⟩ := hP
  subst M9
  cases h8
  exact ⟨rfl, rfl, rfl⟩
theorem s_X11_settle_6 : z_Call mX11_settle zF [(1, 1), (1, -7)] M (zpF 8 2 M) := by
  refine z_enter (k := 0) rfl rfl rfl ?_
  refine zp_al1 (q := 1) dX11_settle_0 rfl ?_
  refine zp_callS1 (s_X11_refuse_6) mtX11_refuse wtX11_refuse wlX11_336 (q := 4) dX11_settle_1 rfl rfl rfl rfl rfl (fun r S9 M9 h8 hP => absurd (congrArg Prod.fst hP.1) h8) (fun k S9 M9 hP => ?_)
  obtain ⟨h8, rfl, h9⟩ := hP
  subst M9
  cases h8
  exact ⟨rfl, rfl, rfl⟩
theorem s_X11_settle_7 : z_Call mX11_settle zF [(1, 1), (1, -8)] M (zpF 8 2 M) := by
  refine z_enter (k := 0) rfl rfl rfl ?_
  refine zp_al1 (q := 1) dX11_settle_0 rfl ?_
  refine zp_callS1 (s_X11_refuse_7) mtX11_refuse wtX11_refuse wlX11_336 (q := 4) dX11_settle_1 rfl rfl rfl rfl rfl (fun r S9 M9 h8 hP => absurd (congrArg Prod.fst hP.1) h8) (fun k S9 M9 hP => ?_)
  obtain ⟨h8, rfl, h9⟩ := hP
  subst M9
  cases h8
  exact ⟨rfl, rfl, rfl⟩
theorem s_X11_settle_8 : z_Call mX11_settle zF [(1, 1), (1, -9)] M (zpF 8 2 M) := by
  refine z_enter (k := 0) rfl rfl rfl ?_
  refine zp_al1 (q := 1) dX11_settle_0 rfl ?_
  refine zp_callS1 (s_X11_refuse_8) mtX11_refuse wtX11_refuse wlX11_336 (q := 4) dX11_settle_1 rfl rfl rfl rfl rfl (fun r S9 M9 h8 hP => absurd (congrArg Prod.fst hP.1) h8) (fun k S9 M9 hP => ?_)
  obtain ⟨h8, rfl, h9⟩ := hP
  subst M9
  cases h8
  exact ⟨rfl, rfl, rfl⟩
theorem s_X11_settle_9 : z_Call mX11_settle zF [(1, 1), (1, -10)] M (zpF 8 4 M) := by
  refine z_enter (k := 0) rfl rfl rfl ?_
  refine zp_al1 (q := 1) dX11_settle_0 rfl ?_
  refine zp_callS1 (s_X11_refuse_9) mtX11_refuse wtX11_refuse wlX11_336 (q := 4) dX11_settle_1 rfl rfl rfl rfl rfl (fun r S9 M9 h8 hP => absurd (congrArg Prod.fst hP.1) h8) (fun k S9 M9 hP => ?_)
  obtain ⟨h8, rfl, h9⟩ := hP
  subst M9
  cases h8
  exact ⟨rfl, rfl, rfl⟩
/-- a change that stands: the new row, the old one in the history -/
def zCm (M M' : zM) (G G' : Int → Int) : Prop := zAR M' 2 G' ∧ zHa M' 46 ∧ zRm M M' G ∧ ∀ z, z < 2 ∨ 90 ≤ z → z ≠ 134 → z < 136 + 44 * zNx M ∨ 180 + 44 * zNx M ≤ z → M' z = M z
/-- a change that is refused -/
def zCx (M M' : zM) (G : Int → Int) : Prop := zAR M' 2 G ∧ zHa M' 46 ∧ ∀ z, z < 2 ∨ 90 ≤ z → M' z = M z
theorem zHh.of {M' : zM} (Hh : zHh M) (h : ∀ z, 134 ≤ z → z < 488 → M' z = M z) : zHh M' := by
  obtain ⟨q0, q1, q2, q3⟩ := Hh
  have e := h 134 (by omega) (by omega)
  refine ⟨by rw [e]; exact q0, by rw [e]; exact q1, by rw [e]; exact q2, fun k k0 k1 => ⟨by rw [h 135 (by omega) (by omega)]; exact (q3 k k0 k1).1, (q3 k k0 k1).2.of (fun z z0 z1 => h z (by omega) (by omega))⟩⟩
theorem zNx_range (Hh : zHh M) : 0 ≤ zNx M ∧ zNx M < 8 := by
  have := Hh.2.1
  have := Hh.2.2.1
  unfold zNx
  omega
/-- what the three steps of a change leave -/
theorem z_chg {M1 M2 M3 : zM} {G' : Int → Int} (hG : zWF G) (hG' : zWF G') (Hh : zHh M) (R1 : zAR M1 46 G) (F1 : ∀ z, z < 46 ∨ 46 + 44 ≤ z → M1 z = M z) (R2 : zAR M2 2 G') (F2 : ∀ z, z < 2 ∨ 2 + 44 ≤ z → M2 z = M1 z) (x1 : zRm M2 M3 G) (x2 : ∀ z, z ≠ 134 → z < 136 + 44 * zNx M2 ∨ 180 + 44 * zNx M2 ≤ z → M3 z = M2 z) : zCm M M3 G G' := by
  have hp0 := zNx_range Hh
  have e2 : ∀ z, z < 2 ∨ 90 ≤ z → M2 z = M z := fun z hz => (F2 z (by omega)).trans (F1 z (by omega))
  have en : zNx M2 = zNx M := by unfold zNx; rw [e2 134 (by omega)]
  unfold zRm at x1
  rw [en, e2 134 (by omega)] at x1
  rw [en] at x2
  refine ⟨R2.of hG' (fun z z0 z1 => x2 z (by omega) (by omega)), R1.h.of (fun z z0 z1 => (x2 z (by omega) (by omega)).trans (F2 z (by omega))), x1, fun z h1 h2 h3 => (x2 z h2 h3).trans (e2 z h1)⟩
theorem z_ref {M1 : zM} (hG : zWF G) (R : zAR M 2 G) (R1 : zAR M1 46 G) (F1 : ∀ z, z < 46 ∨ 46 + 44 ≤ z → M1 z = M z) : zCx M M1 G := ⟨R.of hG (fun z z0 z1 => F1 z (by omega)), R1.h, fun z hz => F1 z (by omega)⟩
theorem s_before (Hb : zHa M 46) (R : zAR M 2 G) (hG : zWF G) : z_Call mX1_copyFrom zF [(1, 46), (1, 2)] M (zpA (9, 0) 46 G M) := s_X1_copyFrom as46 as2 (by decide) Hb R hG
theorem s_X11_addWind (Hw : zHw M) (Hb : zHa M 46) (Hh : zHh M) (R : zAR M 2 G) (hG : zWF G) (hw8 : G 0 < 8) : z_Call mX11_addWind zF [(1, 1)] M (fun r S' M' => r = (0, G 0) ∧ S' = zF ∧ zCm M M' G (gAdd G)) := by
  have hG' := hG.add hw8
  have hw := hG.w
  refine z_enter (k := 0) rfl rfl rfl ?_
  refine zp_al0 (q := 1) dX11_addWind_0 rfl ?_
  refine zf_getG (v := 46) 1 (k1) (Hw.be) rfl fdX11_16 (q := 4) dX11_addWind_1 rfl rfl ?_
  refine zp_al0 (q := 5) dX11_addWind_4 rfl ?_
  refine zf_getG (v := 2) 0 (k1) (Hw.as) rfl fdX11_10 (q := 8) dX11_addWind_5 rfl rfl ?_
  refine zf_callV1 (by first | assumption | exact k2 | exact k46 | exact k90) (s_before Hb R hG) mtX1_copyFrom wiX1_copyFrom weX1_copyFrom wlX11_72 (q := 11) dX11_addWind_8 rfl rfl rfl rfl rfl rfl rfl (fun r S9 M9 h8 hP => ?_) (fun k S9 M9 hP => (z_no hP.1 rfl).elim)
  obtain ⟨rfl, rfl, R1, F1⟩ := hP
  have Hw1 : zHw M9 := Hw.of (F1 1 (by omega))
  have R2 := R.of hG (fun z z0 z1 => F1 z (by omega))
  have ex : ∃ M1, M1 = M9 := ⟨M9, rfl⟩
  obtain ⟨M1, e1⟩ := ex
  rw [← e1] at R1 F1 Hw1 R2 ⊢
  clear e1 M9
  refine zp_al0 (q := 12) dX11_addWind_11 rfl ?_
  refine zp_al0 (q := 13) dX11_addWind_12 rfl ?_
  refine zf_getG (v := 2) 0 (k1) (Hw1.as) rfl fdX11_10 (q := 16) dX11_addWind_13 rfl rfl ?_
  refine zf_callV0 (by first | assumption | exact k2 | exact k46 | exact k90) (s_X1_putWind as2 R2 hG hw8) mtX1_putWind wiX1_putWind weX1_putWind wlX11_76 (q := 19) dX11_addWind_16 rfl rfl rfl rfl rfl rfl rfl (fun r S9 M9 h8 hP => ?_) (fun k S9 M9 hP => (z_no hP.1 rfl).elim)
  obtain ⟨rfl, rfl, R3, F3⟩ := hP
  have Hw2 : zHw M9 := Hw1.of (F3 1 (by omega))
  have ex : ∃ M2, M2 = M9 := ⟨M9, rfl⟩
  obtain ⟨M2, e2⟩ := ex
  rw [← e2] at R3 F3 Hw2 ⊢
  clear e2 M9
  refine zf_callV1 (k1) (s_X11_settle Hw2 (Hh.of (fun z z0 z1 => (F3 z (by omega)).trans (F1 z (by omega)))) (R1.of hG (fun z z0 z1 => F3 z (by omega))) hG) mtX11_settle wiX11_settle weX11_settle wlX11_80 (q := 22) dX11_addWind_19 rfl rfl rfl rfl rfl rfl rfl (fun r S9 M9 h8 hP => ?_) (fun k S9 M9 hP => (z_no hP.1 rfl).elim)
  obtain ⟨rfl, rfl, x1, x2⟩ := hP
  have hcm := z_chg hG hG' Hh R1 F1 R3 F3 x1 x2
  have Hw9 : zHw M9 := Hw.of (hcm.2.2.2 1 (by omega) (by decide) (by have := zNx_range Hh; omega))
  refine zp_al0 (q := 23) dX11_addWind_22 rfl ?_
  refine zf_getG (v := 2) 0 (k1) (Hw9.as) rfl fdX11_10 (q := 26) dX11_addWind_23 rfl rfl ?_
  refine zf_getG (v := gAdd G 0) 0 (by first | assumption | exact k2 | exact k46 | exact k90) (hcm.1.w) rfl fdX11_84 (q := 29) dX11_addWind_26 rfl rfl ?_
  refine zr_iconst (q := 30) dX11_addWind_29 rfl (z_in_of rfl) ?_
  refine zr_isub (q := 31) dX11_addWind_30 rfl (fun hA hB => by have : gAdd G 0 = G 0 + 1 := rfl; unfold z_in at *; omega) ?_
  refine zr_ireturn dX11_addWind_31 rfl (z_fit_i _) ?_
  exact ⟨by rw [show gAdd G 0 - 1 = G 0 by have : gAdd G 0 = G 0 + 1 := rfl; omega], rfl, hcm⟩
theorem s_X11_addWind_x (Hw : zHw M) (Hb : zHa M 46) (Hh : zHh M) (R : zAR M 2 G) (hG : zWF G) (hw8 : ¬ G 0 < 8) : z_Call mX11_addWind zF [(1, 1)] M (fun r S' M' => r = (8, 2) ∧ S' = zF ∧ zCx M M' G) := by
  refine z_enter (k := 0) rfl rfl rfl ?_
  refine zp_al0 (q := 1) dX11_addWind_0 rfl ?_
  refine zf_getG (v := 46) 1 (k1) (Hw.be) rfl fdX11_16 (q := 4) dX11_addWind_1 rfl rfl ?_
  refine zp_al0 (q := 5) dX11_addWind_4 rfl ?_
  refine zf_getG (v := 2) 0 (k1) (Hw.as) rfl fdX11_10 (q := 8) dX11_addWind_5 rfl rfl ?_
  refine zf_callV1 (by first | assumption | exact k2 | exact k46 | exact k90) (s_before Hb R hG) mtX1_copyFrom wiX1_copyFrom weX1_copyFrom wlX11_72 (q := 11) dX11_addWind_8 rfl rfl rfl rfl rfl rfl rfl (fun r S9 M9 h8 hP => ?_) (fun k S9 M9 hP => (z_no hP.1 rfl).elim)
  obtain ⟨rfl, rfl, R1, F1⟩ := hP
  have Hw1 : zHw M9 := Hw.of (F1 1 (by omega))
  have R2 := R.of hG (fun z z0 z1 => F1 z (by omega))
  refine zp_al0 (q := 12) dX11_addWind_11 rfl ?_
  refine zp_al0 (q := 13) dX11_addWind_12 rfl ?_
  refine zf_getG (v := 2) 0 (k1) (Hw1.as) rfl fdX11_10 (q := 16) dX11_addWind_13 rfl rfl ?_
  refine zf_callV0 (by first | assumption | exact k2 | exact k46 | exact k90) (s_X1_putWind_x as2 R2 hG hw8) mtX1_putWind wiX1_putWind weX1_putWind wlX11_76 (q := 19) dX11_addWind_16 rfl rfl rfl rfl rfl rfl rfl (fun r S9 M9 h8 hP => ?_) (fun k S9 M9 hP => (z_no hP.1 rfl).elim)
  obtain ⟨rfl, rfl, h9⟩ := hP
  subst M9
  refine zf_callV1 (k1) (s_X11_settle_5) mtX11_settle wiX11_settle weX11_settle wlX11_80 (q := 22) dX11_addWind_19 rfl rfl rfl rfl rfl rfl rfl (fun r S9 M9 h8 hP => absurd (congrArg Prod.fst hP.1) h8) (fun k S9 M9 hP => ?_)
  obtain ⟨h8, rfl, h9⟩ := hP
  subst M9
  cases h8
  exact ⟨rfl, rfl, z_ref hG R R1 F1⟩
theorem s_X11_withdraw (Hw : zHw M) (Hb : zHa M 46) (Hh : zHh M) (R : zAR M 2 G) (hG : zWF G) {w : Int} (h0 : 0 ≤ w) (h1 : w < G 0) (h2 : G (4 + w) = 0) : z_Call mX11_withdraw zF [(1, 1), (0, w)] M (fun r S' M' => r = (0, zSt (gGo G w)) ∧ S' = zF ∧ zCm M M' G (gGo G w)) := by
  have hG' := hG.go h0 h1 h2
  refine z_enter (k := 0) rfl rfl rfl ?_
  refine zp_al0 (q := 1) dX11_withdraw_0 rfl ?_
  refine zf_getG (v := 46) 1 (k1) (Hw.be) rfl fdX11_16 (q := 4) dX11_withdraw_1 rfl rfl ?_
  refine zp_al0 (q := 5) dX11_withdraw_4 rfl ?_
  refine zf_getG (v := 2) 0 (k1) (Hw.as) rfl fdX11_10 (q := 8) dX11_withdraw_5 rfl rfl ?_
  refine zf_callV1 (by first | assumption | exact k2 | exact k46 | exact k90) (s_before Hb R hG) mtX1_copyFrom wiX1_copyFrom weX1_copyFrom wlX11_72 (q := 11) dX11_withdraw_8 rfl rfl rfl rfl rfl rfl rfl (fun r S9 M9 h8 hP => ?_) (fun k S9 M9 hP => (z_no hP.1 rfl).elim)
  obtain ⟨rfl, rfl, R1, F1⟩ := hP
  have Hw1 : zHw M9 := Hw.of (F1 1 (by omega))
  have R2 := R.of hG (fun z z0 z1 => F1 z (by omega))
  have ex : ∃ M1, M1 = M9 := ⟨M9, rfl⟩
  obtain ⟨M1, e1⟩ := ex
  rw [← e1] at R1 F1 Hw1 R2 ⊢
  clear e1 M9
  refine zp_al0 (q := 12) dX11_withdraw_11 rfl ?_
  refine zp_al0 (q := 13) dX11_withdraw_12 rfl ?_
  refine zf_getG (v := 2) 0 (k1) (Hw1.as) rfl fdX11_10 (q := 16) dX11_withdraw_13 rfl rfl ?_
  refine zp_il1 (q := 17) dX11_withdraw_16 rfl ?_
  refine zf_callV1 (by first | assumption | exact k2 | exact k46 | exact k90) (s_X1_letGo as2 R2 hG h0 h1 h2) mtX1_letGo wiX1_letGo weX1_letGo wlX11_87 (q := 20) dX11_withdraw_17 rfl rfl rfl rfl rfl rfl rfl (fun r S9 M9 h8 hP => ?_) (fun k S9 M9 hP => (z_no hP.1 rfl).elim)
  obtain ⟨rfl, rfl, R3, F3⟩ := hP
  have Hw2 : zHw M9 := Hw1.of (F3 1 (by omega))
  have ex : ∃ M2, M2 = M9 := ⟨M9, rfl⟩
  obtain ⟨M2, e2⟩ := ex
  rw [← e2] at R3 F3 Hw2 ⊢
  clear e2 M9
  refine zf_callV1 (k1) (s_X11_settle Hw2 (Hh.of (fun z z0 z1 => (F3 z (by omega)).trans (F1 z (by omega)))) (R1.of hG (fun z z0 z1 => F3 z (by omega))) hG) mtX11_settle wiX11_settle weX11_settle wlX11_80 (q := 23) dX11_withdraw_20 rfl rfl rfl rfl rfl rfl rfl (fun r S9 M9 h8 hP => ?_) (fun k S9 M9 hP => (z_no hP.1 rfl).elim)
  obtain ⟨rfl, rfl, x1, x2⟩ := hP
  have hcm := z_chg hG hG' Hh R1 F1 R3 F3 x1 x2
  have Hw9 : zHw M9 := Hw.of (hcm.2.2.2 1 (by omega) (by decide) (by have := zNx_range Hh; omega))
  refine zp_al0 (q := 24) dX11_withdraw_23 rfl ?_
  refine zf_getG (v := 2) 0 (k1) (Hw9.as) rfl fdX11_10 (q := 27) dX11_withdraw_24 rfl rfl ?_
  refine zf_callV0 (by first | assumption | exact k2 | exact k46 | exact k90) (s_X1_standingWinds as2 hcm.1 hG') mtX1_standingWinds wiX1_standingWinds weX1_standingWinds wlX11_91 (q := 30) dX11_withdraw_27 rfl rfl rfl rfl rfl rfl rfl (fun r S9 M9 h8 hP => ?_) (fun k S9 M9 hP => (z_no hP.1 rfl).elim)
  obtain ⟨rfl, rfl, h9⟩ := hP
  subst M9
  refine zr_ireturn dX11_withdraw_30 rfl (z_fit_i _) ?_
  exact ⟨rfl, rfl, hcm⟩
theorem s_X11_withdraw_x (Hw : zHw M) (Hb : zHa M 46) (Hh : zHh M) (R : zAR M 2 G) (hG : zWF G) {w : Int} (h0 : ¬ (0 ≤ w ∧ w < G 0)) : z_Call mX11_withdraw zF [(1, 1), (0, w)] M (fun r S' M' => r = (8, 0) ∧ S' = zF ∧ zCx M M' G) := by
  refine z_enter (k := 0) rfl rfl rfl ?_
  refine zp_al0 (q := 1) dX11_withdraw_0 rfl ?_
  refine zf_getG (v := 46) 1 (k1) (Hw.be) rfl fdX11_16 (q := 4) dX11_withdraw_1 rfl rfl ?_
  refine zp_al0 (q := 5) dX11_withdraw_4 rfl ?_
  refine zf_getG (v := 2) 0 (k1) (Hw.as) rfl fdX11_10 (q := 8) dX11_withdraw_5 rfl rfl ?_
  refine zf_callV1 (by first | assumption | exact k2 | exact k46 | exact k90) (s_before Hb R hG) mtX1_copyFrom wiX1_copyFrom weX1_copyFrom wlX11_72 (q := 11) dX11_withdraw_8 rfl rfl rfl rfl rfl rfl rfl (fun r S9 M9 h8 hP => ?_) (fun k S9 M9 hP => (z_no hP.1 rfl).elim)
  obtain ⟨rfl, rfl, R1, F1⟩ := hP
  have Hw1 : zHw M9 := Hw.of (F1 1 (by omega))
  have R2 := R.of hG (fun z z0 z1 => F1 z (by omega))
  refine zp_al0 (q := 12) dX11_withdraw_11 rfl ?_
  refine zp_al0 (q := 13) dX11_withdraw_12 rfl ?_
  refine zf_getG (v := 2) 0 (k1) (Hw1.as) rfl fdX11_10 (q := 16) dX11_withdraw_13 rfl rfl ?_
  refine zp_il1 (q := 17) dX11_withdraw_16 rfl ?_
  refine zf_callV1 (by first | assumption | exact k2 | exact k46 | exact k90) (s_X1_letGo_x as2 R2 hG h0) mtX1_letGo wiX1_letGo weX1_letGo wlX11_87 (q := 20) dX11_withdraw_17 rfl rfl rfl rfl rfl rfl rfl (fun r S9 M9 h8 hP => ?_) (fun k S9 M9 hP => (z_no hP.1 rfl).elim)
  obtain ⟨rfl, rfl, h9⟩ := hP
  subst M9
  refine zf_callV1 (k1) (s_X11_settle_1) mtX11_settle wiX11_settle weX11_settle wlX11_80 (q := 23) dX11_withdraw_20 rfl rfl rfl rfl rfl rfl rfl (fun r S9 M9 h8 hP => absurd (congrArg Prod.fst hP.1) h8) (fun k S9 M9 hP => ?_)
  obtain ⟨h8, rfl, h9⟩ := hP
  subst M9
  cases h8
  exact ⟨rfl, rfl, z_ref hG R R1 F1⟩
theorem s_X11_withdraw_y (Hw : zHw M) (Hb : zHa M 46) (Hh : zHh M) (R : zAR M 2 G) (hG : zWF G) {w : Int} (h0 : 0 ≤ w) (h1 : w < G 0) (h2 : G (4 + w) ≠ 0) : z_Call mX11_withdraw zF [(1, 1), (0, w)] M (fun r S' M' => r = (8, 2) ∧ S' = zF ∧ zCx M M' G) := by
  refine z_enter (k := 0) rfl rfl rfl ?_
  refine zp_al0 (q := 1) dX11_withdraw_0 rfl ?_
  refine zf_getG (v := 46) 1 (k1) (Hw.be) rfl fdX11_16 (q := 4) dX11_withdraw_1 rfl rfl ?_
  refine zp_al0 (q := 5) dX11_withdraw_4 rfl ?_
  refine zf_getG (v := 2) 0 (k1) (Hw.as) rfl fdX11_10 (q := 8) dX11_withdraw_5 rfl rfl ?_
  refine zf_callV1 (by first | assumption | exact k2 | exact k46 | exact k90) (s_before Hb R hG) mtX1_copyFrom wiX1_copyFrom weX1_copyFrom wlX11_72 (q := 11) dX11_withdraw_8 rfl rfl rfl rfl rfl rfl rfl (fun r S9 M9 h8 hP => ?_) (fun k S9 M9 hP => (z_no hP.1 rfl).elim)
  obtain ⟨rfl, rfl, R1, F1⟩ := hP
  have Hw1 : zHw M9 := Hw.of (F1 1 (by omega))
  have R2 := R.of hG (fun z z0 z1 => F1 z (by omega))
  refine zp_al0 (q := 12) dX11_withdraw_11 rfl ?_
  refine zp_al0 (q := 13) dX11_withdraw_12 rfl ?_
  refine zf_getG (v := 2) 0 (k1) (Hw1.as) rfl fdX11_10 (q := 16) dX11_withdraw_13 rfl rfl ?_
  refine zp_il1 (q := 17) dX11_withdraw_16 rfl ?_
  refine zf_callV1 (by first | assumption | exact k2 | exact k46 | exact k90) (s_X1_letGo_y as2 R2 hG h0 h1 h2) mtX1_letGo wiX1_letGo weX1_letGo wlX11_87 (q := 20) dX11_withdraw_17 rfl rfl rfl rfl rfl rfl rfl (fun r S9 M9 h8 hP => ?_) (fun k S9 M9 hP => (z_no hP.1 rfl).elim)
  obtain ⟨rfl, rfl, h9⟩ := hP
  subst M9
  refine zf_callV1 (k1) (s_X11_settle_8) mtX11_settle wiX11_settle weX11_settle wlX11_80 (q := 23) dX11_withdraw_20 rfl rfl rfl rfl rfl rfl rfl (fun r S9 M9 h8 hP => absurd (congrArg Prod.fst hP.1) h8) (fun k S9 M9 hP => ?_)
  obtain ⟨h8, rfl, h9⟩ := hP
  subst M9
  cases h8
  exact ⟨rfl, rfl, z_ref hG R R1 F1⟩
theorem s_X11_addBallot (Hw : zHw M) (Hb : zHa M 46) (Hh : zHh M) (R : zAR M 2 G) (hG : zWF G) {x f : Int} (hn : G 1 < 20) (hx : 1 ≤ x ∧ x ≤ 99) (hf : 0 ≤ f ∧ f < G 0) : z_Call mX11_addBallot zF [(1, 1), (0, x), (0, f)] M (fun r S' M' => r = (0, G 1) ∧ S' = zF ∧ zCm M M' G (gBal G x f)) := by
  have hG' := hG.ball hn hx hf
  have hn0 := hG.n
  refine z_enter (k := 0) rfl rfl rfl ?_
  refine zp_al0 (q := 1) dX11_addBallot_0 rfl ?_
  refine zf_getG (v := 46) 1 (k1) (Hw.be) rfl fdX11_16 (q := 4) dX11_addBallot_1 rfl rfl ?_
  refine zp_al0 (q := 5) dX11_addBallot_4 rfl ?_
  refine zf_getG (v := 2) 0 (k1) (Hw.as) rfl fdX11_10 (q := 8) dX11_addBallot_5 rfl rfl ?_
  refine zf_callV1 (by first | assumption | exact k2 | exact k46 | exact k90) (s_before Hb R hG) mtX1_copyFrom wiX1_copyFrom weX1_copyFrom wlX11_72 (q := 11) dX11_addBallot_8 rfl rfl rfl rfl rfl rfl rfl (fun r S9 M9 h8 hP => ?_) (fun k S9 M9 hP => (z_no hP.1 rfl).elim)
  obtain ⟨rfl, rfl, R1, F1⟩ := hP
  have Hw1 : zHw M9 := Hw.of (F1 1 (by omega))
  have R2 := R.of hG (fun z z0 z1 => F1 z (by omega))
  have ex : ∃ M1, M1 = M9 := ⟨M9, rfl⟩
  obtain ⟨M1, e1⟩ := ex
  rw [← e1] at R1 F1 Hw1 R2 ⊢
  clear e1 M9
  refine zp_al0 (q := 12) dX11_addBallot_11 rfl ?_
  refine zp_al0 (q := 13) dX11_addBallot_12 rfl ?_
  refine zf_getG (v := 2) 0 (k1) (Hw1.as) rfl fdX11_10 (q := 16) dX11_addBallot_13 rfl rfl ?_
  refine zp_il1 (q := 17) dX11_addBallot_16 rfl ?_
  refine zp_il2 (q := 18) dX11_addBallot_17 rfl ?_
  refine zf_callV2 (by first | assumption | exact k2 | exact k46 | exact k90) (s_X1_putBallot as2 R2 hG hn hx hf) mtX1_putBallot wiX1_putBallot weX1_putBallot wlX11_106 (q := 21) dX11_addBallot_18 rfl rfl rfl rfl rfl rfl rfl (fun r S9 M9 h8 hP => ?_) (fun k S9 M9 hP => (z_no hP.1 rfl).elim)
  obtain ⟨rfl, rfl, R3, F3⟩ := hP
  have Hw2 : zHw M9 := Hw1.of (F3 1 (by omega))
  have ex : ∃ M2, M2 = M9 := ⟨M9, rfl⟩
  obtain ⟨M2, e2⟩ := ex
  rw [← e2] at R3 F3 Hw2 ⊢
  clear e2 M9
  refine zf_callV1 (k1) (s_X11_settle Hw2 (Hh.of (fun z z0 z1 => (F3 z (by omega)).trans (F1 z (by omega)))) (R1.of hG (fun z z0 z1 => F3 z (by omega))) hG) mtX11_settle wiX11_settle weX11_settle wlX11_80 (q := 24) dX11_addBallot_21 rfl rfl rfl rfl rfl rfl rfl (fun r S9 M9 h8 hP => ?_) (fun k S9 M9 hP => (z_no hP.1 rfl).elim)
  obtain ⟨rfl, rfl, x1, x2⟩ := hP
  have hcm := z_chg hG hG' Hh R1 F1 R3 F3 x1 x2
  have Hw9 : zHw M9 := Hw.of (hcm.2.2.2 1 (by omega) (by decide) (by have := zNx_range Hh; omega))
  refine zp_al0 (q := 25) dX11_addBallot_24 rfl ?_
  refine zf_getG (v := 2) 0 (k1) (Hw9.as) rfl fdX11_10 (q := 28) dX11_addBallot_25 rfl rfl ?_
  refine zf_getG (v := gBal G x f 1) 4 (by first | assumption | exact k2 | exact k46 | exact k90) (hcm.1.n) rfl fdX11_110 (q := 31) dX11_addBallot_28 rfl rfl ?_
  refine zr_iconst (q := 32) dX11_addBallot_31 rfl (z_in_of rfl) ?_
  refine zr_isub (q := 33) dX11_addBallot_32 rfl (fun hA hB => by have : gBal G x f 1 = G 1 + 1 := rfl; unfold z_in at *; omega) ?_
  refine zr_ireturn dX11_addBallot_33 rfl (z_fit_i _) ?_
  exact ⟨by rw [show gBal G x f 1 - 1 = G 1 by have : gBal G x f 1 = G 1 + 1 := rfl; omega], rfl, hcm⟩
theorem s_X11_addBallot_x (Hw : zHw M) (Hb : zHa M 46) (Hh : zHh M) (R : zAR M 2 G) (hG : zWF G) {x f : Int} (hf : ¬ (0 ≤ f ∧ f < G 0)) : z_Call mX11_addBallot zF [(1, 1), (0, x), (0, f)] M (fun r S' M' => r = (8, 0) ∧ S' = zF ∧ zCx M M' G) := by
  refine z_enter (k := 0) rfl rfl rfl ?_
  refine zp_al0 (q := 1) dX11_addBallot_0 rfl ?_
  refine zf_getG (v := 46) 1 (k1) (Hw.be) rfl fdX11_16 (q := 4) dX11_addBallot_1 rfl rfl ?_
  refine zp_al0 (q := 5) dX11_addBallot_4 rfl ?_
  refine zf_getG (v := 2) 0 (k1) (Hw.as) rfl fdX11_10 (q := 8) dX11_addBallot_5 rfl rfl ?_
  refine zf_callV1 (by first | assumption | exact k2 | exact k46 | exact k90) (s_before Hb R hG) mtX1_copyFrom wiX1_copyFrom weX1_copyFrom wlX11_72 (q := 11) dX11_addBallot_8 rfl rfl rfl rfl rfl rfl rfl (fun r S9 M9 h8 hP => ?_) (fun k S9 M9 hP => (z_no hP.1 rfl).elim)
  obtain ⟨rfl, rfl, R1, F1⟩ := hP
  have Hw1 : zHw M9 := Hw.of (F1 1 (by omega))
  have R2 := R.of hG (fun z z0 z1 => F1 z (by omega))
  refine zp_al0 (q := 12) dX11_addBallot_11 rfl ?_
  refine zp_al0 (q := 13) dX11_addBallot_12 rfl ?_
  refine zf_getG (v := 2) 0 (k1) (Hw1.as) rfl fdX11_10 (q := 16) dX11_addBallot_13 rfl rfl ?_
  refine zp_il1 (q := 17) dX11_addBallot_16 rfl ?_
  refine zp_il2 (q := 18) dX11_addBallot_17 rfl ?_
  refine zf_callV2 (by first | assumption | exact k2 | exact k46 | exact k90) (s_X1_putBallot_x as2 R2 hG hf) mtX1_putBallot wiX1_putBallot weX1_putBallot wlX11_106 (q := 21) dX11_addBallot_18 rfl rfl rfl rfl rfl rfl rfl (fun r S9 M9 h8 hP => ?_) (fun k S9 M9 hP => (z_no hP.1 rfl).elim)
  obtain ⟨rfl, rfl, h9⟩ := hP
  subst M9
  refine zf_callV1 (k1) (s_X11_settle_1) mtX11_settle wiX11_settle weX11_settle wlX11_80 (q := 24) dX11_addBallot_21 rfl rfl rfl rfl rfl rfl rfl (fun r S9 M9 h8 hP => absurd (congrArg Prod.fst hP.1) h8) (fun k S9 M9 hP => ?_)
  obtain ⟨h8, rfl, h9⟩ := hP
  subst M9
  cases h8
  exact ⟨rfl, rfl, z_ref hG R R1 F1⟩
theorem s_X11_addBallot_y (Hw : zHw M) (Hb : zHa M 46) (Hh : zHh M) (R : zAR M 2 G) (hG : zWF G) {x f : Int} (hf : 0 ≤ f ∧ f < G 0) (hx : ¬ (1 ≤ x ∧ x ≤ 99)) : z_Call mX11_addBallot zF [(1, 1), (0, x), (0, f)] M (fun r S' M' => r = (8, 1) ∧ S' = zF ∧ zCx M M' G) := by
  refine z_enter (k := 0) rfl rfl rfl ?_
  refine zp_al0 (q := 1) dX11_addBallot_0 rfl ?_
  refine zf_getG (v := 46) 1 (k1) (Hw.be) rfl fdX11_16 (q := 4) dX11_addBallot_1 rfl rfl ?_
  refine zp_al0 (q := 5) dX11_addBallot_4 rfl ?_
  refine zf_getG (v := 2) 0 (k1) (Hw.as) rfl fdX11_10 (q := 8) dX11_addBallot_5 rfl rfl ?_
  refine zf_callV1 (by first | assumption | exact k2 | exact k46 | exact k90) (s_before Hb R hG) mtX1_copyFrom wiX1_copyFrom weX1_copyFrom wlX11_72 (q := 11) dX11_addBallot_8 rfl rfl rfl rfl rfl rfl rfl (fun r S9 M9 h8 hP => ?_) (fun k S9 M9 hP => (z_no hP.1 rfl).elim)
  obtain ⟨rfl, rfl, R1, F1⟩ := hP
  have Hw1 : zHw M9 := Hw.of (F1 1 (by omega))
  have R2 := R.of hG (fun z z0 z1 => F1 z (by omega))
  refine zp_al0 (q := 12) dX11_addBallot_11 rfl ?_
  refine zp_al0 (q := 13) dX11_addBallot_12 rfl ?_
  refine zf_getG (v := 2) 0 (k1) (Hw1.as) rfl fdX11_10 (q := 16) dX11_addBallot_13 rfl rfl ?_
  refine zp_il1 (q := 17) dX11_addBallot_16 rfl ?_
  refine zp_il2 (q := 18) dX11_addBallot_17 rfl ?_
  refine zf_callV2 (by first | assumption | exact k2 | exact k46 | exact k90) (s_X1_putBallot_y as2 R2 hG hf hx) mtX1_putBallot wiX1_putBallot weX1_putBallot wlX11_106 (q := 21) dX11_addBallot_18 rfl rfl rfl rfl rfl rfl rfl (fun r S9 M9 h8 hP => ?_) (fun k S9 M9 hP => (z_no hP.1 rfl).elim)
  obtain ⟨rfl, rfl, h9⟩ := hP
  subst M9
  refine zf_callV1 (k1) (s_X11_settle_3) mtX11_settle wiX11_settle weX11_settle wlX11_80 (q := 24) dX11_addBallot_21 rfl rfl rfl rfl rfl rfl rfl (fun r S9 M9 h8 hP => absurd (congrArg Prod.fst hP.1) h8) (fun k S9 M9 hP => ?_)
  obtain ⟨h8, rfl, h9⟩ := hP
  subst M9
  cases h8
  exact ⟨rfl, rfl, z_ref hG R R1 F1⟩
theorem s_X11_addBallot_z (Hw : zHw M) (Hb : zHa M 46) (Hh : zHh M) (R : zAR M 2 G) (hG : zWF G) {x f : Int} (hf : 0 ≤ f ∧ f < G 0) (hx : 1 ≤ x ∧ x ≤ 99) (hn : ¬ G 1 < 20) : z_Call mX11_addBallot zF [(1, 1), (0, x), (0, f)] M (fun r S' M' => r = (8, 2) ∧ S' = zF ∧ zCx M M' G) := by
  refine z_enter (k := 0) rfl rfl rfl ?_
  refine zp_al0 (q := 1) dX11_addBallot_0 rfl ?_
  refine zf_getG (v := 46) 1 (k1) (Hw.be) rfl fdX11_16 (q := 4) dX11_addBallot_1 rfl rfl ?_
  refine zp_al0 (q := 5) dX11_addBallot_4 rfl ?_
  refine zf_getG (v := 2) 0 (k1) (Hw.as) rfl fdX11_10 (q := 8) dX11_addBallot_5 rfl rfl ?_
  refine zf_callV1 (by first | assumption | exact k2 | exact k46 | exact k90) (s_before Hb R hG) mtX1_copyFrom wiX1_copyFrom weX1_copyFrom wlX11_72 (q := 11) dX11_addBallot_8 rfl rfl rfl rfl rfl rfl rfl (fun r S9 M9 h8 hP => ?_) (fun k S9 M9 hP => (z_no hP.1 rfl).elim)
  obtain ⟨rfl, rfl, R1, F1⟩ := hP
  have Hw1 : zHw M9 := Hw.of (F1 1 (by omega))
  have R2 := R.of hG (fun z z0 z1 => F1 z (by omega))
  refine zp_al0 (q := 12) dX11_addBallot_11 rfl ?_
  refine zp_al0 (q := 13) dX11_addBallot_12 rfl ?_
  refine zf_getG (v := 2) 0 (k1) (Hw1.as) rfl fdX11_10 (q := 16) dX11_addBallot_13 rfl rfl ?_
  refine zp_il1 (q := 17) dX11_addBallot_16 rfl ?_
  refine zp_il2 (q := 18) dX11_addBallot_17 rfl ?_
  refine zf_callV2 (by first | assumption | exact k2 | exact k46 | exact k90) (s_X1_putBallot_z as2 R2 hG hf hx hn) mtX1_putBallot wiX1_putBallot weX1_putBallot wlX11_106 (q := 21) dX11_addBallot_18 rfl rfl rfl rfl rfl rfl rfl (fun r S9 M9 h8 hP => ?_) (fun k S9 M9 hP => (z_no hP.1 rfl).elim)
  obtain ⟨rfl, rfl, h9⟩ := hP
  subst M9
  refine zf_callV1 (k1) (s_X11_settle_6) mtX11_settle wiX11_settle weX11_settle wlX11_80 (q := 24) dX11_addBallot_21 rfl rfl rfl rfl rfl rfl rfl (fun r S9 M9 h8 hP => absurd (congrArg Prod.fst hP.1) h8) (fun k S9 M9 hP => ?_)
  obtain ⟨h8, rfl, h9⟩ := hP
  subst M9
  cases h8
  exact ⟨rfl, rfl, z_ref hG R R1 F1⟩
theorem s_X11_rank (Hw : zHw M) (Hb : zHa M 46) (Hh : zHh M) (R : zAR M 2 G) (hG : zWF G) {b w : Int} (hb : 0 ≤ b ∧ b < G 1) (hw : 0 ≤ w ∧ w < G 0) (hp : zPl G b w = -1) (h5 : G (20 + 7 * b + 1) < 5) : z_Call mX11_rank zF [(1, 1), (0, b), (0, w)] M (fun r S' M' => r = (0, G (20 + 7 * b + 1)) ∧ S' = zF ∧ zCm M M' G (gRank G b w)) := by
  have hG' := hG.rank hb.1 hb.2 h5 hw
  have hn0 := hG.n
  have hz := hG.sz hb.1 hb.2
  have g1 : gRank G b w 1 = G 1 := by unfold gRank zSet; omega
  have g2 : gRank G b w (20 + 7 * b + 1) = G (20 + 7 * b + 1) + 1 := by unfold gRank zSet; omega
  refine z_enter (k := 0) rfl rfl rfl ?_
  refine zp_al0 (q := 1) dX11_rank_0 rfl ?_
  refine zf_getG (v := 46) 1 (k1) (Hw.be) rfl fdX11_16 (q := 4) dX11_rank_1 rfl rfl ?_
  refine zp_al0 (q := 5) dX11_rank_4 rfl ?_
  refine zf_getG (v := 2) 0 (k1) (Hw.as) rfl fdX11_10 (q := 8) dX11_rank_5 rfl rfl ?_
  refine zf_callV1 (by first | assumption | exact k2 | exact k46 | exact k90) (s_before Hb R hG) mtX1_copyFrom wiX1_copyFrom weX1_copyFrom wlX11_72 (q := 11) dX11_rank_8 rfl rfl rfl rfl rfl rfl rfl (fun r S9 M9 h8 hP => ?_) (fun k S9 M9 hP => (z_no hP.1 rfl).elim)
  obtain ⟨rfl, rfl, R1, F1⟩ := hP
  have Hw1 : zHw M9 := Hw.of (F1 1 (by omega))
  have R2 := R.of hG (fun z z0 z1 => F1 z (by omega))
  have ex : ∃ M1, M1 = M9 := ⟨M9, rfl⟩
  obtain ⟨M1, e1⟩ := ex
  rw [← e1] at R1 F1 Hw1 R2 ⊢
  clear e1 M9
  refine zp_al0 (q := 12) dX11_rank_11 rfl ?_
  refine zp_al0 (q := 13) dX11_rank_12 rfl ?_
  refine zf_getG (v := 2) 0 (k1) (Hw1.as) rfl fdX11_10 (q := 16) dX11_rank_13 rfl rfl ?_
  refine zp_il1 (q := 17) dX11_rank_16 rfl ?_
  refine zp_il2 (q := 18) dX11_rank_17 rfl ?_
  refine zf_callV2 (by first | assumption | exact k2 | exact k46 | exact k90) (s_X1_extendBallot as2 R2 hG hb.1 hb.2 hw hp h5) mtX1_extendBallot wiX1_extendBallot weX1_extendBallot wlX11_113 (q := 21) dX11_rank_18 rfl rfl rfl rfl rfl rfl rfl (fun r S9 M9 h8 hP => ?_) (fun k S9 M9 hP => (z_no hP.1 rfl).elim)
  obtain ⟨rfl, rfl, R3, F3⟩ := hP
  have Hw2 : zHw M9 := Hw1.of (F3 1 (by omega))
  have ex : ∃ M2, M2 = M9 := ⟨M9, rfl⟩
  obtain ⟨M2, e2⟩ := ex
  rw [← e2] at R3 F3 Hw2 ⊢
  clear e2 M9
  refine zf_callV1 (k1) (s_X11_settle Hw2 (Hh.of (fun z z0 z1 => (F3 z (by omega)).trans (F1 z (by omega)))) (R1.of hG (fun z z0 z1 => F3 z (by omega))) hG) mtX11_settle wiX11_settle weX11_settle wlX11_80 (q := 24) dX11_rank_21 rfl rfl rfl rfl rfl rfl rfl (fun r S9 M9 h8 hP => ?_) (fun k S9 M9 hP => (z_no hP.1 rfl).elim)
  obtain ⟨rfl, rfl, x1, x2⟩ := hP
  have hcm := z_chg hG hG' Hh R1 F1 R3 F3 x1 x2
  have Hw9 : zHw M9 := Hw.of (hcm.2.2.2 1 (by omega) (by decide) (by have := zNx_range Hh; omega))
  refine zp_al0 (q := 25) dX11_rank_24 rfl ?_
  refine zp_il1 (q := 26) dX11_rank_25 rfl ?_
  refine zf_callV1 (k1) (s_X11_ballotNumbered Hw9 hcm.1 hG' (by rw [g1]; exact hb)) mtX11_ballotNumbered wiX11_ballotNumbered weX11_ballotNumbered wlX11_116 (q := 29) dX11_rank_26 rfl rfl rfl rfl rfl rfl rfl (fun r S9 M9 h8 hP => ?_) (fun k S9 M9 hP => (z_no hP.1 rfl).elim)
  obtain ⟨rfl, rfl, h9⟩ := hP
  subst h9
  refine zf_getG (v := gRank G b w (20 + 7 * b + 1)) 1 (zBl_0 as2 (hcm.1.h.bl hb.1 (by omega))) (hcm.1.bn hb.1 (by rw [g1]; exact hb.2)) rfl fdX11_120 (q := 32) dX11_rank_29 rfl rfl ?_
  refine zr_iconst (q := 33) dX11_rank_32 rfl (z_in_of rfl) ?_
  refine zr_isub (q := 34) dX11_rank_33 rfl (fun hA hB => by rw [g2] at *; unfold z_in at *; omega) ?_
  refine zr_ireturn dX11_rank_34 rfl (z_fit_i _) ?_
  exact ⟨by rw [show gRank G b w (20 + 7 * b + 1) - 1 = G (20 + 7 * b + 1) by omega], rfl, hcm⟩
theorem s_X11_rank_x (Hw : zHw M) (Hb : zHa M 46) (Hh : zHh M) (R : zAR M 2 G) (hG : zWF G) {b w : Int} (hb : ¬ (0 ≤ b ∧ b < G 1)) : z_Call mX11_rank zF [(1, 1), (0, b), (0, w)] M (fun r S' M' => r = (8, 0) ∧ S' = zF ∧ zCx M M' G) := by
  refine z_enter (k := 0) rfl rfl rfl ?_
  refine zp_al0 (q := 1) dX11_rank_0 rfl ?_
  refine zf_getG (v := 46) 1 (k1) (Hw.be) rfl fdX11_16 (q := 4) dX11_rank_1 rfl rfl ?_
  refine zp_al0 (q := 5) dX11_rank_4 rfl ?_
  refine zf_getG (v := 2) 0 (k1) (Hw.as) rfl fdX11_10 (q := 8) dX11_rank_5 rfl rfl ?_
  refine zf_callV1 (by first | assumption | exact k2 | exact k46 | exact k90) (s_before Hb R hG) mtX1_copyFrom wiX1_copyFrom weX1_copyFrom wlX11_72 (q := 11) dX11_rank_8 rfl rfl rfl rfl rfl rfl rfl (fun r S9 M9 h8 hP => ?_) (fun k S9 M9 hP => (z_no hP.1 rfl).elim)
  obtain ⟨rfl, rfl, R1, F1⟩ := hP
  have Hw1 : zHw M9 := Hw.of (F1 1 (by omega))
  have R2 := R.of hG (fun z z0 z1 => F1 z (by omega))
  refine zp_al0 (q := 12) dX11_rank_11 rfl ?_
  refine zp_al0 (q := 13) dX11_rank_12 rfl ?_
  refine zf_getG (v := 2) 0 (k1) (Hw1.as) rfl fdX11_10 (q := 16) dX11_rank_13 rfl rfl ?_
  refine zp_il1 (q := 17) dX11_rank_16 rfl ?_
  refine zp_il2 (q := 18) dX11_rank_17 rfl ?_
  refine zf_callV2 (by first | assumption | exact k2 | exact k46 | exact k90) (s_X1_extendBallot_x as2 R2 hG hb) mtX1_extendBallot wiX1_extendBallot weX1_extendBallot wlX11_113 (q := 21) dX11_rank_18 rfl rfl rfl rfl rfl rfl rfl (fun r S9 M9 h8 hP => ?_) (fun k S9 M9 hP => (z_no hP.1 rfl).elim)
  obtain ⟨rfl, rfl, h9⟩ := hP
  subst M9
  refine zf_callV1 (k1) (s_X11_settle_2) mtX11_settle wiX11_settle weX11_settle wlX11_80 (q := 24) dX11_rank_21 rfl rfl rfl rfl rfl rfl rfl (fun r S9 M9 h8 hP => absurd (congrArg Prod.fst hP.1) h8) (fun k S9 M9 hP => ?_)
  obtain ⟨h8, rfl, h9⟩ := hP
  subst M9
  cases h8
  exact ⟨rfl, rfl, z_ref hG R R1 F1⟩
theorem s_X11_rank_y (Hw : zHw M) (Hb : zHa M 46) (Hh : zHh M) (R : zAR M 2 G) (hG : zWF G) {b w : Int} (hb : 0 ≤ b ∧ b < G 1) (hw : ¬ (0 ≤ w ∧ w < G 0)) : z_Call mX11_rank zF [(1, 1), (0, b), (0, w)] M (fun r S' M' => r = (8, 0) ∧ S' = zF ∧ zCx M M' G) := by
  refine z_enter (k := 0) rfl rfl rfl ?_
  refine zp_al0 (q := 1) dX11_rank_0 rfl ?_
  refine zf_getG (v := 46) 1 (k1) (Hw.be) rfl fdX11_16 (q := 4) dX11_rank_1 rfl rfl ?_
  refine zp_al0 (q := 5) dX11_rank_4 rfl ?_
  refine zf_getG (v := 2) 0 (k1) (Hw.as) rfl fdX11_10 (q := 8) dX11_rank_5 rfl rfl ?_
  refine zf_callV1 (by first | assumption | exact k2 | exact k46 | exact k90) (s_before Hb R hG) mtX1_copyFrom wiX1_copyFrom weX1_copyFrom wlX11_72 (q := 11) dX11_rank_8 rfl rfl rfl rfl rfl rfl rfl (fun r S9 M9 h8 hP => ?_) (fun k S9 M9 hP => (z_no hP.1 rfl).elim)
  obtain ⟨rfl, rfl, R1, F1⟩ := hP
  have Hw1 : zHw M9 := Hw.of (F1 1 (by omega))
  have R2 := R.of hG (fun z z0 z1 => F1 z (by omega))
  refine zp_al0 (q := 12) dX11_rank_11 rfl ?_
  refine zp_al0 (q := 13) dX11_rank_12 rfl ?_
  refine zf_getG (v := 2) 0 (k1) (Hw1.as) rfl fdX11_10 (q := 16) dX11_rank_13 rfl rfl ?_
  refine zp_il1 (q := 17) dX11_rank_16 rfl ?_
  refine zp_il2 (q := 18) dX11_rank_17 rfl ?_
  refine zf_callV2 (by first | assumption | exact k2 | exact k46 | exact k90) (s_X1_extendBallot_y as2 R2 hG hb hw) mtX1_extendBallot wiX1_extendBallot weX1_extendBallot wlX11_113 (q := 21) dX11_rank_18 rfl rfl rfl rfl rfl rfl rfl (fun r S9 M9 h8 hP => ?_) (fun k S9 M9 hP => (z_no hP.1 rfl).elim)
  obtain ⟨rfl, rfl, h9⟩ := hP
  subst M9
  refine zf_callV1 (k1) (s_X11_settle_1) mtX11_settle wiX11_settle weX11_settle wlX11_80 (q := 24) dX11_rank_21 rfl rfl rfl rfl rfl rfl rfl (fun r S9 M9 h8 hP => absurd (congrArg Prod.fst hP.1) h8) (fun k S9 M9 hP => ?_)
  obtain ⟨h8, rfl, h9⟩ := hP
  subst M9
  cases h8
  exact ⟨rfl, rfl, z_ref hG R R1 F1⟩
theorem s_X11_rank_z (Hw : zHw M) (Hb : zHa M 46) (Hh : zHh M) (R : zAR M 2 G) (hG : zWF G) {b w : Int} (hb : 0 ≤ b ∧ b < G 1) (hw : 0 ≤ w ∧ w < G 0) (hp : zPl G b w ≠ -1) : z_Call mX11_rank zF [(1, 1), (0, b), (0, w)] M (fun r S' M' => r = (8, 1) ∧ S' = zF ∧ zCx M M' G) := by
  refine z_enter (k := 0) rfl rfl rfl ?_
  refine zp_al0 (q := 1) dX11_rank_0 rfl ?_
  refine zf_getG (v := 46) 1 (k1) (Hw.be) rfl fdX11_16 (q := 4) dX11_rank_1 rfl rfl ?_
  refine zp_al0 (q := 5) dX11_rank_4 rfl ?_
  refine zf_getG (v := 2) 0 (k1) (Hw.as) rfl fdX11_10 (q := 8) dX11_rank_5 rfl rfl ?_
  refine zf_callV1 (by first | assumption | exact k2 | exact k46 | exact k90) (s_before Hb R hG) mtX1_copyFrom wiX1_copyFrom weX1_copyFrom wlX11_72 (q := 11) dX11_rank_8 rfl rfl rfl rfl rfl rfl rfl (fun r S9 M9 h8 hP => ?_) (fun k S9 M9 hP => (z_no hP.1 rfl).elim)
  obtain ⟨rfl, rfl, R1, F1⟩ := hP
  have Hw1 : zHw M9 := Hw.of (F1 1 (by omega))
  have R2 := R.of hG (fun z z0 z1 => F1 z (by omega))
  refine zp_al0 (q := 12) dX11_rank_11 rfl ?_
  refine zp_al0 (q := 13) dX11_rank_12 rfl ?_
  refine zf_getG (v := 2) 0 (k1) (Hw1.as) rfl fdX11_10 (q := 16) dX11_rank_13 rfl rfl ?_
  refine zp_il1 (q := 17) dX11_rank_16 rfl ?_
  refine zp_il2 (q := 18) dX11_rank_17 rfl ?_
  refine zf_callV2 (by first | assumption | exact k2 | exact k46 | exact k90) (s_X1_extendBallot_z as2 R2 hG hb hw hp) mtX1_extendBallot wiX1_extendBallot weX1_extendBallot wlX11_113 (q := 21) dX11_rank_18 rfl rfl rfl rfl rfl rfl rfl (fun r S9 M9 h8 hP => ?_) (fun k S9 M9 hP => (z_no hP.1 rfl).elim)
  obtain ⟨rfl, rfl, h9⟩ := hP
  subst M9
  refine zf_callV1 (k1) (s_X11_settle_4) mtX11_settle wiX11_settle weX11_settle wlX11_80 (q := 24) dX11_rank_21 rfl rfl rfl rfl rfl rfl rfl (fun r S9 M9 h8 hP => absurd (congrArg Prod.fst hP.1) h8) (fun k S9 M9 hP => ?_)
  obtain ⟨h8, rfl, h9⟩ := hP
  subst M9
  cases h8
  exact ⟨rfl, rfl, z_ref hG R R1 F1⟩
theorem s_X11_rank_u (Hw : zHw M) (Hb : zHa M 46) (Hh : zHh M) (R : zAR M 2 G) (hG : zWF G) {b w : Int} (hb : 0 ≤ b ∧ b < G 1) (hw : 0 ≤ w ∧ w < G 0) (hp : zPl G b w = -1) (h5 : ¬ G (20 + 7 * b + 1) < 5) : z_Call mX11_rank zF [(1, 1), (0, b), (0, w)] M (fun r S' M' => r = (8, 2) ∧ S' = zF ∧ zCx M M' G) := by
  refine z_enter (k := 0) rfl rfl rfl ?_
  refine zp_al0 (q := 1) dX11_rank_0 rfl ?_
  refine zf_getG (v := 46) 1 (k1) (Hw.be) rfl fdX11_16 (q := 4) dX11_rank_1 rfl rfl ?_
  refine zp_al0 (q := 5) dX11_rank_4 rfl ?_
  refine zf_getG (v := 2) 0 (k1) (Hw.as) rfl fdX11_10 (q := 8) dX11_rank_5 rfl rfl ?_
  refine zf_callV1 (by first | assumption | exact k2 | exact k46 | exact k90) (s_before Hb R hG) mtX1_copyFrom wiX1_copyFrom weX1_copyFrom wlX11_72 (q := 11) dX11_rank_8 rfl rfl rfl rfl rfl rfl rfl (fun r S9 M9 h8 hP => ?_) (fun k S9 M9 hP => (z_no hP.1 rfl).elim)
  obtain ⟨rfl, rfl, R1, F1⟩ := hP
  have Hw1 : zHw M9 := Hw.of (F1 1 (by omega))
  have R2 := R.of hG (fun z z0 z1 => F1 z (by omega))
  refine zp_al0 (q := 12) dX11_rank_11 rfl ?_
  refine zp_al0 (q := 13) dX11_rank_12 rfl ?_
  refine zf_getG (v := 2) 0 (k1) (Hw1.as) rfl fdX11_10 (q := 16) dX11_rank_13 rfl rfl ?_
  refine zp_il1 (q := 17) dX11_rank_16 rfl ?_
  refine zp_il2 (q := 18) dX11_rank_17 rfl ?_
  refine zf_callV2 (by first | assumption | exact k2 | exact k46 | exact k90) (s_X1_extendBallot_u as2 R2 hG hb hw hp h5) mtX1_extendBallot wiX1_extendBallot weX1_extendBallot wlX11_113 (q := 21) dX11_rank_18 rfl rfl rfl rfl rfl rfl rfl (fun r S9 M9 h8 hP => ?_) (fun k S9 M9 hP => (z_no hP.1 rfl).elim)
  obtain ⟨rfl, rfl, h9⟩ := hP
  subst M9
  refine zf_callV1 (k1) (s_X11_settle_7) mtX11_settle wiX11_settle weX11_settle wlX11_80 (q := 24) dX11_rank_21 rfl rfl rfl rfl rfl rfl rfl (fun r S9 M9 h8 hP => absurd (congrArg Prod.fst hP.1) h8) (fun k S9 M9 hP => ?_)
  obtain ⟨h8, rfl, h9⟩ := hP
  subst M9
  cases h8
  exact ⟨rfl, rfl, z_ref hG R R1 F1⟩
theorem s_X11_removeBallot (Hw : zHw M) (Hb : zHa M 46) (Hh : zHh M) (R : zAR M 2 G) (hG : zWF G) {b : Int} (hb : 0 ≤ b ∧ b < G 1) : z_Call mX11_removeBallot zF [(1, 1), (0, b)] M (fun r S' M' => r = (0, G (20 + 7 * b)) ∧ S' = zF ∧ zCm M M' G (gRem G b)) := by
  have hG' := hG.rem hb.1 hb.2
  refine z_enter (k := 1) rfl rfl rfl ?_
  refine zp_al0 (q := 1) dX11_removeBallot_0 rfl ?_
  refine zp_il1 (q := 2) dX11_removeBallot_1 rfl ?_
  refine zf_callV1 (k1) (s_X11_ballotNumbered Hw R hG hb) mtX11_ballotNumbered wiX11_ballotNumbered weX11_ballotNumbered wlX11_116 (q := 5) dX11_removeBallot_2 rfl rfl rfl rfl rfl rfl rfl (fun r S9 M9 h8 hP => ?_) (fun k S9 M9 hP => (z_no hP.1 rfl).elim)
  obtain ⟨rfl, rfl, h9⟩ := hP
  subst M9
  refine zf_getG (v := G (20 + 7 * b)) 0 (zBl_0 as2 (R.h.bl hb.1 (by have := hG.n; omega))) (R.bw hb.1 hb.2) rfl fdX11_125 (q := 8) dX11_removeBallot_5 rfl rfl ?_
  refine zp_is2 (q := 9) dX11_removeBallot_8 rfl rfl rfl ?_
  refine zp_al0 (q := 10) dX11_removeBallot_9 rfl ?_
  refine zf_getG (v := 46) 1 (k1) (Hw.be) rfl fdX11_16 (q := 13) dX11_removeBallot_10 rfl rfl ?_
  refine zp_al0 (q := 14) dX11_removeBallot_13 rfl ?_
  refine zf_getG (v := 2) 0 (k1) (Hw.as) rfl fdX11_10 (q := 17) dX11_removeBallot_14 rfl rfl ?_
  refine zf_callV1 (by first | assumption | exact k2 | exact k46 | exact k90) (s_before Hb R hG) mtX1_copyFrom wiX1_copyFrom weX1_copyFrom wlX11_72 (q := 20) dX11_removeBallot_17 rfl rfl rfl rfl rfl rfl rfl (fun r S9 M9 h8 hP => ?_) (fun k S9 M9 hP => (z_no hP.1 rfl).elim)
  obtain ⟨rfl, rfl, R1, F1⟩ := hP
  have Hw1 : zHw M9 := Hw.of (F1 1 (by omega))
  have R2 := R.of hG (fun z z0 z1 => F1 z (by omega))
  have ex : ∃ M1, M1 = M9 := ⟨M9, rfl⟩
  obtain ⟨M1, e1⟩ := ex
  rw [← e1] at R1 F1 Hw1 R2 ⊢
  clear e1 M9
  refine zp_al0 (q := 21) dX11_removeBallot_20 rfl ?_
  refine zp_al0 (q := 22) dX11_removeBallot_21 rfl ?_
  refine zf_getG (v := 2) 0 (k1) (Hw1.as) rfl fdX11_10 (q := 25) dX11_removeBallot_22 rfl rfl ?_
  refine zp_il1 (q := 26) dX11_removeBallot_25 rfl ?_
  refine zf_callV1 (by first | assumption | exact k2 | exact k46 | exact k90) (s_X1_dropBallot as2 R2 hG hb.1 hb.2) mtX1_dropBallot wiX1_dropBallot weX1_dropBallot wlX11_128 (q := 29) dX11_removeBallot_26 rfl rfl rfl rfl rfl rfl rfl (fun r S9 M9 h8 hP => ?_) (fun k S9 M9 hP => (z_no hP.1 rfl).elim)
  obtain ⟨rfl, rfl, R3, F3⟩ := hP
  have Hw2 : zHw M9 := Hw1.of (F3 1 (by omega))
  have ex : ∃ M2, M2 = M9 := ⟨M9, rfl⟩
  obtain ⟨M2, e2⟩ := ex
  rw [← e2] at R3 F3 Hw2 ⊢
  clear e2 M9
  refine zf_callV1 (k1) (s_X11_settle Hw2 (Hh.of (fun z z0 z1 => (F3 z (by omega)).trans (F1 z (by omega)))) (R1.of hG (fun z z0 z1 => F3 z (by omega))) hG) mtX11_settle wiX11_settle weX11_settle wlX11_80 (q := 32) dX11_removeBallot_29 rfl rfl rfl rfl rfl rfl rfl (fun r S9 M9 h8 hP => ?_) (fun k S9 M9 hP => (z_no hP.1 rfl).elim)
  obtain ⟨rfl, rfl, x1, x2⟩ := hP
  have hcm := z_chg hG hG' Hh R1 F1 R3 F3 x1 x2
  have Hw9 : zHw M9 := Hw.of (hcm.2.2.2 1 (by omega) (by decide) (by have := zNx_range Hh; omega))
  refine zp_il2 (q := 33) dX11_removeBallot_32 rfl ?_
  refine zr_ireturn dX11_removeBallot_33 rfl (z_fit_i _) ?_
  exact ⟨rfl, rfl, hcm⟩
theorem s_X11_recount (Hw : zHw M) (Hb : zHa M 46) (Hh : zHh M) (R : zAR M 2 G) (hG : zWF G) {b x : Int} (hb : 0 ≤ b ∧ b < G 1) (hx : 1 ≤ x ∧ x ≤ 99) : z_Call mX11_recount zF [(1, 1), (0, b), (0, x)] M (fun r S' M' => r = (0, G (20 + 7 * b)) ∧ S' = zF ∧ zCm M M' G (gRec G b x)) := by
  have hG' := hG.rec hb.1 hb.2 hx
  refine z_enter (k := 1) rfl rfl rfl ?_
  refine zp_al0 (q := 1) dX11_recount_0 rfl ?_
  refine zp_il1 (q := 2) dX11_recount_1 rfl ?_
  refine zf_callV1 (k1) (s_X11_ballotNumbered Hw R hG hb) mtX11_ballotNumbered wiX11_ballotNumbered weX11_ballotNumbered wlX11_116 (q := 5) dX11_recount_2 rfl rfl rfl rfl rfl rfl rfl (fun r S9 M9 h8 hP => ?_) (fun k S9 M9 hP => (z_no hP.1 rfl).elim)
  obtain ⟨rfl, rfl, h9⟩ := hP
  subst M9
  refine zf_getG (v := G (20 + 7 * b)) 0 (zBl_0 as2 (R.h.bl hb.1 (by have := hG.n; omega))) (R.bw hb.1 hb.2) rfl fdX11_125 (q := 8) dX11_recount_5 rfl rfl ?_
  refine zp_is3 (q := 9) dX11_recount_8 rfl rfl rfl ?_
  refine zp_al0 (q := 10) dX11_recount_9 rfl ?_
  refine zf_getG (v := 46) 1 (k1) (Hw.be) rfl fdX11_16 (q := 13) dX11_recount_10 rfl rfl ?_
  refine zp_al0 (q := 14) dX11_recount_13 rfl ?_
  refine zf_getG (v := 2) 0 (k1) (Hw.as) rfl fdX11_10 (q := 17) dX11_recount_14 rfl rfl ?_
  refine zf_callV1 (by first | assumption | exact k2 | exact k46 | exact k90) (s_before Hb R hG) mtX1_copyFrom wiX1_copyFrom weX1_copyFrom wlX11_72 (q := 20) dX11_recount_17 rfl rfl rfl rfl rfl rfl rfl (fun r S9 M9 h8 hP => ?_) (fun k S9 M9 hP => (z_no hP.1 rfl).elim)
  obtain ⟨rfl, rfl, R1, F1⟩ := hP
  have Hw1 : zHw M9 := Hw.of (F1 1 (by omega))
  have R2 := R.of hG (fun z z0 z1 => F1 z (by omega))
  have ex : ∃ M1, M1 = M9 := ⟨M9, rfl⟩
  obtain ⟨M1, e1⟩ := ex
  rw [← e1] at R1 F1 Hw1 R2 ⊢
  clear e1 M9
  refine zp_al0 (q := 21) dX11_recount_20 rfl ?_
  refine zp_al0 (q := 22) dX11_recount_21 rfl ?_
  refine zf_getG (v := 2) 0 (k1) (Hw1.as) rfl fdX11_10 (q := 25) dX11_recount_22 rfl rfl ?_
  refine zp_il1 (q := 26) dX11_recount_25 rfl ?_
  refine zp_il2 (q := 27) dX11_recount_26 rfl ?_
  refine zf_callV2 (by first | assumption | exact k2 | exact k46 | exact k90) (s_X1_reweigh as2 R2 hG hb.1 hb.2 hx) mtX1_reweigh wiX1_reweigh weX1_reweigh wlX11_131 (q := 30) dX11_recount_27 rfl rfl rfl rfl rfl rfl rfl (fun r S9 M9 h8 hP => ?_) (fun k S9 M9 hP => (z_no hP.1 rfl).elim)
  obtain ⟨rfl, rfl, R3, F3⟩ := hP
  have Hw2 : zHw M9 := Hw1.of (F3 1 (by omega))
  have ex : ∃ M2, M2 = M9 := ⟨M9, rfl⟩
  obtain ⟨M2, e2⟩ := ex
  rw [← e2] at R3 F3 Hw2 ⊢
  clear e2 M9
  refine zf_callV1 (k1) (s_X11_settle Hw2 (Hh.of (fun z z0 z1 => (F3 z (by omega)).trans (F1 z (by omega)))) (R1.of hG (fun z z0 z1 => F3 z (by omega))) hG) mtX11_settle wiX11_settle weX11_settle wlX11_80 (q := 33) dX11_recount_30 rfl rfl rfl rfl rfl rfl rfl (fun r S9 M9 h8 hP => ?_) (fun k S9 M9 hP => (z_no hP.1 rfl).elim)
  obtain ⟨rfl, rfl, x1, x2⟩ := hP
  have hcm := z_chg hG hG' Hh R1 F1 R3 F3 x1 x2
  have Hw9 : zHw M9 := Hw.of (hcm.2.2.2 1 (by omega) (by decide) (by have := zNx_range Hh; omega))
  refine zp_il3 (q := 34) dX11_recount_33 rfl ?_
  refine zr_ireturn dX11_recount_34 rfl (z_fit_i _) ?_
  exact ⟨rfl, rfl, hcm⟩
theorem s_X11_recount_y (Hw : zHw M) (Hb : zHa M 46) (Hh : zHh M) (R : zAR M 2 G) (hG : zWF G) {b x : Int} (hb : 0 ≤ b ∧ b < G 1) (hx : ¬ (1 ≤ x ∧ x ≤ 99)) : z_Call mX11_recount zF [(1, 1), (0, b), (0, x)] M (fun r S' M' => r = (8, 1) ∧ S' = zF ∧ zCx M M' G) := by
  refine z_enter (k := 1) rfl rfl rfl ?_
  refine zp_al0 (q := 1) dX11_recount_0 rfl ?_
  refine zp_il1 (q := 2) dX11_recount_1 rfl ?_
  refine zf_callV1 (k1) (s_X11_ballotNumbered Hw R hG hb) mtX11_ballotNumbered wiX11_ballotNumbered weX11_ballotNumbered wlX11_116 (q := 5) dX11_recount_2 rfl rfl rfl rfl rfl rfl rfl (fun r S9 M9 h8 hP => ?_) (fun k S9 M9 hP => (z_no hP.1 rfl).elim)
  obtain ⟨rfl, rfl, h9⟩ := hP
  subst M9
  refine zf_getG (v := G (20 + 7 * b)) 0 (zBl_0 as2 (R.h.bl hb.1 (by have := hG.n; omega))) (R.bw hb.1 hb.2) rfl fdX11_125 (q := 8) dX11_recount_5 rfl rfl ?_
  refine zp_is3 (q := 9) dX11_recount_8 rfl rfl rfl ?_
  refine zp_al0 (q := 10) dX11_recount_9 rfl ?_
  refine zf_getG (v := 46) 1 (k1) (Hw.be) rfl fdX11_16 (q := 13) dX11_recount_10 rfl rfl ?_
  refine zp_al0 (q := 14) dX11_recount_13 rfl ?_
  refine zf_getG (v := 2) 0 (k1) (Hw.as) rfl fdX11_10 (q := 17) dX11_recount_14 rfl rfl ?_
  refine zf_callV1 (by first | assumption | exact k2 | exact k46 | exact k90) (s_before Hb R hG) mtX1_copyFrom wiX1_copyFrom weX1_copyFrom wlX11_72 (q := 20) dX11_recount_17 rfl rfl rfl rfl rfl rfl rfl (fun r S9 M9 h8 hP => ?_) (fun k S9 M9 hP => (z_no hP.1 rfl).elim)
  obtain ⟨rfl, rfl, R1, F1⟩ := hP
  have Hw1 : zHw M9 := Hw.of (F1 1 (by omega))
  have R2 := R.of hG (fun z z0 z1 => F1 z (by omega))
  refine zp_al0 (q := 21) dX11_recount_20 rfl ?_
  refine zp_al0 (q := 22) dX11_recount_21 rfl ?_
  refine zf_getG (v := 2) 0 (k1) (Hw1.as) rfl fdX11_10 (q := 25) dX11_recount_22 rfl rfl ?_
  refine zp_il1 (q := 26) dX11_recount_25 rfl ?_
  refine zp_il2 (q := 27) dX11_recount_26 rfl ?_
  refine zf_callV2 (by first | assumption | exact k2 | exact k46 | exact k90) (s_X1_reweigh_y as2 R2 hG hb hx) mtX1_reweigh wiX1_reweigh weX1_reweigh wlX11_131 (q := 30) dX11_recount_27 rfl rfl rfl rfl rfl rfl rfl (fun r S9 M9 h8 hP => ?_) (fun k S9 M9 hP => (z_no hP.1 rfl).elim)
  obtain ⟨rfl, rfl, h9⟩ := hP
  subst M9
  refine zf_callV1 (k1) (s_X11_settle_3) mtX11_settle wiX11_settle weX11_settle wlX11_80 (q := 33) dX11_recount_30 rfl rfl rfl rfl rfl rfl rfl (fun r S9 M9 h8 hP => absurd (congrArg Prod.fst hP.1) h8) (fun k S9 M9 hP => ?_)
  obtain ⟨h8, rfl, h9⟩ := hP
  subst M9
  cases h8
  exact ⟨rfl, rfl, z_ref hG R R1 F1⟩
theorem s_X11_removeBallot_x (Hw : zHw M) (R : zAR M 2 G) (hG : zWF G) {b : Int} (hb : ¬ (0 ≤ b ∧ b < G 1)) : z_Call mX11_removeBallot zF [(1, 1), (0, b)] M (zpF 8 0 M) := by
  refine z_enter (k := 1) rfl rfl rfl ?_
  refine zp_al0 (q := 1) dX11_removeBallot_0 rfl ?_
  refine zp_il1 (q := 2) dX11_removeBallot_1 rfl ?_
  refine zf_callV1 (k1) (s_X11_ballotNumbered_x Hw R hG hb) mtX11_ballotNumbered wiX11_ballotNumbered weX11_ballotNumbered wlX11_116 (q := 5) dX11_removeBallot_2 rfl rfl rfl rfl rfl rfl rfl (fun r S9 M9 h8 hP => absurd (congrArg Prod.fst hP.1) h8) (fun k S9 M9 hP => ?_)
  obtain ⟨h8, rfl, h9⟩ := hP
  subst M9
  cases h8
  exact ⟨rfl, rfl, rfl⟩
theorem s_X11_recount_x (Hw : zHw M) (R : zAR M 2 G) (hG : zWF G) {b x : Int} (hb : ¬ (0 ≤ b ∧ b < G 1)) : z_Call mX11_recount zF [(1, 1), (0, b), (0, x)] M (zpF 8 0 M) := by
  refine z_enter (k := 1) rfl rfl rfl ?_
  refine zp_al0 (q := 1) dX11_recount_0 rfl ?_
  refine zp_il1 (q := 2) dX11_recount_1 rfl ?_
  refine zf_callV1 (k1) (s_X11_ballotNumbered_x Hw R hG hb) mtX11_ballotNumbered wiX11_ballotNumbered weX11_ballotNumbered wlX11_116 (q := 5) dX11_recount_2 rfl rfl rfl rfl rfl rfl rfl (fun r S9 M9 h8 hP => absurd (congrArg Prod.fst hP.1) h8) (fun k S9 M9 hP => ?_)
  obtain ⟨h8, rfl, h9⟩ := hP
  subst M9
  cases h8
  exact ⟨rfl, rfl, rfl⟩
theorem s_X11_spin (Hw : zHw M) (Hb : zHa M 46) (Hh : zHh M) (R : zAR M 2 G) (hG : zWF G)  : z_Call mX11_spin zF [(1, 1)] M (fun r S' M' => r = (0, (5 * G 2 + 3) % 16) ∧ S' = zF ∧ zCm M M' G (gSpin G ((5 * G 2 + 3) % 16))) := by
  have hG' := hG.spin (s := (5 * G 2 + 3) % 16) (by omega) (by omega)
  refine z_enter (k := 0) rfl rfl rfl ?_
  refine zp_al0 (q := 1) dX11_spin_0 rfl ?_
  refine zf_getG (v := 46) 1 (k1) (Hw.be) rfl fdX11_16 (q := 4) dX11_spin_1 rfl rfl ?_
  refine zp_al0 (q := 5) dX11_spin_4 rfl ?_
  refine zf_getG (v := 2) 0 (k1) (Hw.as) rfl fdX11_10 (q := 8) dX11_spin_5 rfl rfl ?_
  refine zf_callV1 (by first | assumption | exact k2 | exact k46 | exact k90) (s_before Hb R hG) mtX1_copyFrom wiX1_copyFrom weX1_copyFrom wlX11_72 (q := 11) dX11_spin_8 rfl rfl rfl rfl rfl rfl rfl (fun r S9 M9 h8 hP => ?_) (fun k S9 M9 hP => (z_no hP.1 rfl).elim)
  obtain ⟨rfl, rfl, R1, F1⟩ := hP
  have Hw1 : zHw M9 := Hw.of (F1 1 (by omega))
  have R2 := R.of hG (fun z z0 z1 => F1 z (by omega))
  have ex : ∃ M1, M1 = M9 := ⟨M9, rfl⟩
  obtain ⟨M1, e1⟩ := ex
  rw [← e1] at R1 F1 Hw1 R2 ⊢
  clear e1 M9
  refine zp_al0 (q := 12) dX11_spin_11 rfl ?_
  refine zp_al0 (q := 13) dX11_spin_12 rfl ?_
  refine zf_getG (v := 2) 0 (k1) (Hw1.as) rfl fdX11_10 (q := 16) dX11_spin_13 rfl rfl ?_
  refine zf_callV0 (by first | assumption | exact k2 | exact k46 | exact k90) (s_X1_turnSpinner as2 R2 hG) mtX1_turnSpinner wiX1_turnSpinner weX1_turnSpinner wlX11_231 (q := 19) dX11_spin_16 rfl rfl rfl rfl rfl rfl rfl (fun r S9 M9 h8 hP => ?_) (fun k S9 M9 hP => (z_no hP.1 rfl).elim)
  obtain ⟨rfl, rfl, R3, F3⟩ := hP
  have Hw2 : zHw M9 := Hw1.of (F3 1 (by omega))
  have ex : ∃ M2, M2 = M9 := ⟨M9, rfl⟩
  obtain ⟨M2, e2⟩ := ex
  rw [← e2] at R3 F3 Hw2 ⊢
  clear e2 M9
  refine zf_callV1 (k1) (s_X11_settle Hw2 (Hh.of (fun z z0 z1 => (F3 z (by omega)).trans (F1 z (by omega)))) (R1.of hG (fun z z0 z1 => F3 z (by omega))) hG) mtX11_settle wiX11_settle weX11_settle wlX11_80 (q := 22) dX11_spin_19 rfl rfl rfl rfl rfl rfl rfl (fun r S9 M9 h8 hP => ?_) (fun k S9 M9 hP => (z_no hP.1 rfl).elim)
  obtain ⟨rfl, rfl, x1, x2⟩ := hP
  have hcm := z_chg hG hG' Hh R1 F1 R3 F3 x1 x2
  have Hw9 : zHw M9 := Hw.of (hcm.2.2.2 1 (by omega) (by decide) (by have := zNx_range Hh; omega))
  refine zp_al0 (q := 23) dX11_spin_22 rfl ?_
  refine zf_getG (v := 2) 0 (k1) (Hw9.as) rfl fdX11_10 (q := 26) dX11_spin_23 rfl rfl ?_
  refine zf_getG (v := (5 * G 2 + 3) % 16) 6 (by first | assumption | exact k2 | exact k46 | exact k90) (hcm.1.sp) rfl fdX11_234 (q := 29) dX11_spin_26 rfl rfl ?_
  refine zr_ireturn dX11_spin_29 rfl (z_fit_i _) ?_
  exact ⟨rfl, rfl, hcm⟩
theorem s_X11_undo (Hw : zHw M) (Hh : zHh M) (h : 0 < M 134 2) (Ha : zHa M 2) (R : zAR M (136 + 44 * zLs M) G) (hG : zWF G) : z_Call mX11_undo zF [(1, 1)] M (fun r S' M' => r = (0, M 134 2 - 1) ∧ S' = zF ∧ zAR M' 2 G ∧ M' 134 2 = M 134 2 - 1 ∧ (∀ j, j ≠ 2 → M' 134 j = M 134 j) ∧ ∀ z, z ≠ 134 → z < 2 ∨ 46 ≤ z → M' z = M z) := by
  refine z_enter (k := 0) rfl rfl rfl ?_
  refine zp_al0 (q := 1) dX11_undo_0 rfl ?_
  refine zf_getG (v := 134) 4 (k1) (Hw.hi) rfl fdX11_29 (q := 4) dX11_undo_1 rfl rfl ?_
  refine zp_al0 (q := 5) dX11_undo_4 rfl ?_
  refine zf_getG (v := 2) 0 (k1) (Hw.as) rfl fdX11_10 (q := 8) dX11_undo_5 rfl rfl ?_
  refine zf_callV1 (k134) (s_X5_takeBack Hh h Ha R hG) mtX5_takeBack wiX5_takeBack weX5_takeBack wlX11_306 (q := 11) dX11_undo_8 rfl rfl rfl rfl rfl rfl rfl (fun r S9 M9 h8 hP => ?_) (fun k S9 M9 hP => (z_no hP.1 rfl).elim)
  obtain ⟨rfl, rfl, x1, x2, x3, x4⟩ := hP
  have Hw9 : zHw M9 := Hw.of (x4 1 (by decide) (by decide))
  refine zr_if_ne (q := 25) (q2 := 14) dX11_undo_11 (by decide) rfl (fun h11 => ?_) (fun h11 => ?_)
  · refine zp_al0 (q := 26) dX11_undo_25 rfl ?_
    refine zf_getG (v := 134) 4 (k1) (Hw9.hi) rfl fdX11_29 (q := 29) dX11_undo_26 rfl rfl ?_
    refine zf_getG (v := M 134 2 - 1) 2 (k134) (x2) rfl fdX11_312 (q := 32) dX11_undo_29 rfl rfl ?_
    refine zr_ireturn dX11_undo_32 rfl (z_fit_i _) ?_
    exact ⟨rfl, rfl, x1, x2, x3, x4⟩
  · exact absurd (by decide) h11
theorem s_X11_undo_x (Hw : zHw M) (h : M 134 2 = 0) : z_Call mX11_undo zF [(1, 1)] M (zpF 8 2 M) := by
  refine z_enter (k := 0) rfl rfl rfl ?_
  refine zp_al0 (q := 1) dX11_undo_0 rfl ?_
  refine zf_getG (v := 134) 4 (k1) (Hw.hi) rfl fdX11_29 (q := 4) dX11_undo_1 rfl rfl ?_
  refine zp_al0 (q := 5) dX11_undo_4 rfl ?_
  refine zf_getG (v := 2) 0 (k1) (Hw.as) rfl fdX11_10 (q := 8) dX11_undo_5 rfl rfl ?_
  refine zf_callV1 (k134) (s_X5_takeBack_x h) mtX5_takeBack wiX5_takeBack weX5_takeBack wlX11_306 (q := 11) dX11_undo_8 rfl rfl rfl rfl rfl rfl rfl (fun r S9 M9 h8 hP => ?_) (fun k S9 M9 hP => (z_no hP.1 rfl).elim)
  obtain ⟨rfl, rfl, h9⟩ := hP
  subst M9
  refine zr_if_ne (q := 25) (q2 := 14) dX11_undo_11 (by decide) rfl (fun h11 => ?_) (fun h11 => ?_)
  · exact absurd rfl h11
  · refine zr_throwSW (i := 20) th_2 rfl (by decide) rfl rfl dX11_undo_14 dX11_undo_17 dX11_undo_18 dX11_undo_21 dX11_undo_24 (by decide) rfl (by decide) (by decide) (by decide) ?_
    exact ⟨rfl, rfl, rfl⟩
theorem s_X11_save (Hw : zHw M) (Hs : zHa M 90) (R : zAR M 2 G) (hG : zWF G) : z_Call mX11_save zF [(1, 1)] M (fun r S' M' => r = (0, G 1) ∧ S' = zF ∧ zAR M' 90 G ∧ M' 1 3 = 1 ∧ (∀ j, j ≠ 3 → M' 1 j = M 1 j) ∧ ∀ z, z ≠ 1 → z < 90 ∨ 134 ≤ z → M' z = M z) := by
  refine z_enter (k := 0) rfl rfl rfl ?_
  refine zp_al0 (q := 1) dX11_save_0 rfl ?_
  refine zf_getG (v := 90) 2 (k1) (Hw.sn) rfl fdX11_19 (q := 4) dX11_save_1 rfl rfl ?_
  refine zp_al0 (q := 5) dX11_save_4 rfl ?_
  refine zf_getG (v := 2) 0 (k1) (Hw.as) rfl fdX11_10 (q := 8) dX11_save_5 rfl rfl ?_
  refine zf_callV1 (by first | assumption | exact k2 | exact k46 | exact k90) (s_X1_copyFrom as90 as2 (by decide) Hs R hG) mtX1_copyFrom wiX1_copyFrom weX1_copyFrom wlX11_72 (q := 11) dX11_save_8 rfl rfl rfl rfl rfl rfl rfl (fun r S9 M9 h8 hP => ?_) (fun k S9 M9 hP => (z_no hP.1 rfl).elim)
  obtain ⟨rfl, rfl, R9, F9⟩ := hP
  have Hw9 : zHw M9 := Hw.of (F9 1 (by omega))
  have R2 := R.of hG (fun z z0 z1 => F9 z (by omega))
  refine zp_al0 (q := 12) dX11_save_11 rfl ?_
  refine zr_iconst (q := 13) dX11_save_12 rfl (z_in_of rfl) ?_
  refine zf_putG 3 (k1) rfl fpX11_22 (q := 16) dX11_save_13 rfl rfl (by decide) (z_fit_z (by decide)) ?_
  refine zp_al0 (q := 17) dX11_save_16 rfl ?_
  refine zf_getG (v := 2) 0 (k1) (by rw [z_up_sl (by decide)]; exact Hw9.as) rfl fdX11_10 (q := 20) dX11_save_17 rfl rfl ?_
  refine zf_getG (v := G 1) 4 (by first | assumption | exact k2 | exact k46 | exact k90) (by rw [z_up_ne (by decide)]; exact R2.n) rfl fdX11_110 (q := 23) dX11_save_20 rfl rfl ?_
  refine zr_ireturn dX11_save_23 rfl (z_fit_i _) ?_
  exact ⟨rfl, rfl, R9.of hG (fun z z0 z1 => z_up_ne (by omega)), z_up_eq, fun j hj => by rw [z_up_sl hj, F9 1 (by omega)], fun z z0 z1 => (z_up_ne z0).trans (F9 z (by omega))⟩
theorem s_X11_restore {G9 : Int → Int} (Hw : zHw M) (h : M 1 3 = 1) (Ha : zHa M 2) (R : zAR M 90 G9) (hG : zWF G9) : z_Call mX11_restore zF [(1, 1)] M (fun r S' M' => r = (0, G9 1) ∧ S' = zF ∧ zAR M' 2 G9 ∧ M' 134 2 = 0 ∧ (∀ j, j ≠ 2 → M' 134 j = M 134 j) ∧ ∀ z, z ≠ 134 → z < 2 ∨ 46 ≤ z → M' z = M z) := by
  refine z_enter (k := 0) rfl rfl rfl ?_
  refine zp_al0 (q := 1) dX11_restore_0 rfl ?_
  refine zf_getG (v := 1) 3 (k1) (h) rfl fdX11_22 (q := 4) dX11_restore_1 rfl rfl ?_
  refine zr_if_ne (q := 18) (q2 := 7) dX11_restore_4 (by decide) rfl (fun h4 => ?_) (fun h4 => ?_)
  · refine zp_al0 (q := 19) dX11_restore_18 rfl ?_
    refine zf_getG (v := 2) 0 (k1) (Hw.as) rfl fdX11_10 (q := 22) dX11_restore_19 rfl rfl ?_
    refine zp_al0 (q := 23) dX11_restore_22 rfl ?_
    refine zf_getG (v := 90) 2 (k1) (Hw.sn) rfl fdX11_19 (q := 26) dX11_restore_23 rfl rfl ?_
    refine zf_callV1 (by first | assumption | exact k2 | exact k46 | exact k90) (s_X1_copyFrom as2 as90 (by decide) Ha R hG) mtX1_copyFrom wiX1_copyFrom weX1_copyFrom wlX11_72 (q := 29) dX11_restore_26 rfl rfl rfl rfl rfl rfl rfl (fun r S9 M9 h8 hP => ?_) (fun k S9 M9 hP => (z_no hP.1 rfl).elim)
    obtain ⟨rfl, rfl, R9, F9⟩ := hP
    have Hw9 : zHw M9 := Hw.of (F9 1 (by omega))
    refine zp_al0 (q := 30) dX11_restore_29 rfl ?_
    refine zf_getG (v := 134) 4 (k1) (Hw9.hi) rfl fdX11_29 (q := 33) dX11_restore_30 rfl rfl ?_
    refine zf_callV0 (k134) (s_X5_forget) mtX5_forget wiX5_forget weX5_forget wlX11_315 (q := 36) dX11_restore_33 rfl rfl rfl rfl rfl rfl rfl (fun r S9 M9 h8 hP => ?_) (fun k S9 M9 hP => (z_no hP.1 rfl).elim)
    obtain ⟨rfl, rfl, h9⟩ := hP
    subst M9
    refine zp_al0 (q := 37) dX11_restore_36 rfl ?_
    refine zf_getG (v := 2) 0 (k1) (by rw [z_up_ne (by decide)]; exact Hw9.as) rfl fdX11_10 (q := 40) dX11_restore_37 rfl rfl ?_
    refine zf_getG (v := G9 1) 4 (by first | assumption | exact k2 | exact k46 | exact k90) (by rw [z_up_ne (by decide)]; exact R9.n) rfl fdX11_110 (q := 43) dX11_restore_40 rfl rfl ?_
    refine zr_ireturn dX11_restore_43 rfl (z_fit_i _) ?_
    exact ⟨rfl, rfl, R9.of hG (fun z z0 z1 => z_up_ne (by omega)), z_up_eq, fun j hj => by rw [z_up_sl hj, F9 134 (by omega)], fun z z0 z1 => (z_up_ne z0).trans (F9 z (by omega))⟩
  · exact absurd (by decide) h4
theorem s_X11_restore_x (h : M 1 3 = 0) : z_Call mX11_restore zF [(1, 1)] M (zpF 8 2 M) := by
  refine z_enter (k := 0) rfl rfl rfl ?_
  refine zp_al0 (q := 1) dX11_restore_0 rfl ?_
  refine zf_getG (v := 0) 3 (k1) (h) rfl fdX11_22 (q := 4) dX11_restore_1 rfl rfl ?_
  refine zr_if_ne (q := 18) (q2 := 7) dX11_restore_4 (by decide) rfl (fun h4 => ?_) (fun h4 => ?_)
  · exact absurd rfl h4
  · refine zr_throwSW (i := 21) th_2 rfl (by decide) rfl rfl dX11_restore_7 dX11_restore_10 dX11_restore_11 dX11_restore_14 dX11_restore_17 (by decide) rfl (by decide) (by decide) (by decide) ?_
    exact ⟨rfl, rfl, rfl⟩
end ZC6
