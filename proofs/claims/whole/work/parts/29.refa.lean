/-! ===== the reference's small methods ===== -/
theorem s_X12_thrown {M : zM} : z_Call mX12_thrown zF [(1, 517)] M (zpF 0 (M 517 7) M) := by
  refine z_enter (k := 0) rfl rfl rfl ?_
  refine zp_al0 (q := 1) dX12_thrown_0 rfl ?_
  refine zf_getG (v := _) 7 (k517) (rfl) rfl fdX12_52 (q := 4) dX12_thrown_1 rfl rfl ?_
  refine zr_ireturn dX12_thrown_4 rfl (z_fit_i _) ?_
  exact ⟨rfl, rfl, rfl⟩
theorem s_X12_fails {M : zM} {x : Int} : z_Call mX12_fails zF [(1, 517), (0, x)] M (fun r S' M' => r = (0, if 0 < x then 1 else 0) ∧ S' = zF ∧ M' = z_up M 517 7 x) := by
  refine z_enter (k := 0) rfl rfl rfl ?_
  refine zp_al0 (q := 1) dX12_fails_0 rfl ?_
  refine zp_il1 (q := 2) dX12_fails_1 rfl ?_
  refine zf_putG 7 (k517) rfl fpX12_52 (q := 5) dX12_fails_2 rfl rfl (by decide) (z_fit_i _) ?_
  refine zp_il1 (q := 6) dX12_fails_5 rfl ?_
  refine zr_if_le (q := 13) (q2 := 9) dX12_fails_6 (by decide) rfl (fun h6 => ?_) (fun h6 => ?_)
  · refine zr_iconst (q := 14) dX12_fails_13 rfl (z_in_of rfl) ?_
    refine zr_ireturn dX12_fails_14 rfl (z_fit_z (by decide)) ?_
    exact ⟨by simp [*], rfl, rfl⟩
  · refine zr_iconst (q := 10) dX12_fails_9 rfl (z_in_of rfl) ?_
    refine zr_goto (q := 14) dX12_fails_10 (by decide) ?_
    refine zr_ireturn dX12_fails_14 rfl (z_fit_z (by decide)) ?_
    exact ⟨by simp [*], rfl, rfl⟩
theorem s_X12_in {M : zM} {v lo hi : Int} : z_Call mX12_in zF [(0, v), (0, lo), (0, hi)] M (zpF 0 (if lo ≤ v ∧ v ≤ hi then 1 else 0) M) := by
  refine z_enter (k := 0) rfl rfl rfl ?_
  refine zp_il0 (q := 1) dX12_in_0 rfl ?_
  refine zp_il1 (q := 2) dX12_in_1 rfl ?_
  refine zr_icmp_lt (q := 14) (q2 := 5) dX12_in_2 (by decide) rfl (fun h2 => ?_) (fun h2 => ?_)
  · refine zr_iconst (q := 15) dX12_in_14 rfl (z_in_of rfl) ?_
    refine zr_ireturn dX12_in_15 rfl (z_fit_z (by decide)) ?_
    exact ⟨by rw [if_neg (by omega)], rfl, rfl⟩
  · refine zp_il0 (q := 6) dX12_in_5 rfl ?_
    refine zp_il2 (q := 7) dX12_in_6 rfl ?_
    refine zr_icmp_gt (q := 14) (q2 := 10) dX12_in_7 (by decide) rfl (fun h7 => ?_) (fun h7 => ?_)
    · refine zr_iconst (q := 15) dX12_in_14 rfl (z_in_of rfl) ?_
      refine zr_ireturn dX12_in_15 rfl (z_fit_z (by decide)) ?_
      exact ⟨by rw [if_neg (by omega)], rfl, rfl⟩
    · refine zr_iconst (q := 11) dX12_in_10 rfl (z_in_of rfl) ?_
      refine zr_goto (q := 15) dX12_in_11 (by decide) ?_
      refine zr_ireturn dX12_in_15 rfl (z_fit_z (by decide)) ?_
      exact ⟨by rw [if_pos (by omega)], rfl, rfl⟩
/-- n places of a row behind a place, copied behind another -/
theorem s_X12_copies_l {M : zM} {u a v b : Int} {nu nv : Nat} (hu : zR u 10 nu) (hv : zR v 10 nv) (hne : u ≠ v) (ha0 : 0 ≤ a) (ha1 : a + 160 ≤ nu) (hb0 : 0 ≤ b) (hb1 : b + 160 ≤ nv) (hnu : nu ≤ 2000) (hnv : nv ≤ 2000) {bc bs : Nat} : ∀ (m : Nat) (k : Int), 0 ≤ k → k ≤ 160 → 160 - k < m →
    z_Ex mX12_copies zF 3 [(1, u), (0, a), (1, v), (0, b), (0, k)] [] (zCpy M u a v b k) bc bs (fun r S' M' => r = (9, 0) ∧ S' = zF ∧ M' = zCpy M u a v b 160) := by
  intro m
  induction m with
  | zero => intro k h0 h1 h2; omega
  | succ m ih =>
    intro k hk0 hk1 hm
    refine zp_il4 (q := 5) dX12_copies_3 rfl ?_
    refine zr_sipush (q := 8) dX12_copies_5 rfl (z_in_of rfl) (by decide +kernel) ?_
    refine zr_icmp_ge (q := 29) (q2 := 11) dX12_copies_8 (by decide) rfl (fun h8 => ?_) (fun h8 => ?_)
    · refine zr_return dX12_copies_29 rfl ?_
      exact ⟨rfl, rfl, by rw [show k = 160 by omega]⟩
    · refine zp_al2 (q := 12) dX12_copies_11 rfl ?_
      refine zp_il3 (q := 13) dX12_copies_12 rfl ?_
      refine zp_il4 (q := 15) dX12_copies_13 rfl ?_
      refine zr_iadd (q := 16) dX12_copies_15 rfl (fun hA hB => by unfold z_in at hA hB ⊢; omega) ?_
      refine zp_al0 (q := 17) dX12_copies_16 rfl ?_
      refine zp_il1 (q := 18) dX12_copies_17 rfl ?_
      refine zp_il4 (q := 20) dX12_copies_18 rfl ?_
      refine zr_iadd (q := 21) dX12_copies_20 rfl (fun hA hB => by unfold z_in at hA hB ⊢; omega) ?_
      refine zf_iald (v := _) (hu) (rfl) (q := 22) dX12_copies_21 rfl (by omega) (by omega) ?_
      refine zf_iast (hv) (q := 23) dX12_copies_22 rfl (by omega) (by omega) ?_
      refine zp_inc4 (q := 26) dX12_copies_23 rfl rfl rfl (fun hA => by unfold z_in at hA ⊢; omega) ?_
      refine zr_goto (q := 3) dX12_copies_26 (by decide) ?_
      have e := ih (k + 1) (by omega) (by omega) (by omega)
      rw [← zCpy_1 hne hk0] at e
      exact e
theorem s_X12_copies {M : zM} {u a v b : Int} {nu nv : Nat} (hu : zR u 10 nu) (hv : zR v 10 nv) (hne : u ≠ v) (ha0 : 0 ≤ a) (ha1 : a + 160 ≤ nu) (hb0 : 0 ≤ b) (hb1 : b + 160 ≤ nv) (hnu : nu ≤ 2000) (hnv : nv ≤ 2000) :
    z_Call mX12_copies zF [(1, u), (0, a), (1, v), (0, b)] M (fun r S' M' => r = (9, 0) ∧ S' = zF ∧ M' = zCpy M u a v b 160) := by
  refine z_enter (k := 1) rfl rfl rfl ?_
  refine zr_iconst (q := 1) dX12_copies_0 rfl (z_in_of rfl) ?_
  refine zp_is4 (q := 3) dX12_copies_1 rfl rfl rfl ?_
  have e := s_X12_copies_l (M := M) hu hv hne ha0 ha1 hb0 hb1 hnu hnv (bc := 0) (bs := 0) 161 0 (by omega) (by omega) (by omega)
  rw [zCpy_0] at e
  exact e
theorem s_X12_isWind {M : zM} {w : Int} (H : zHm M) (hw : 0 ≤ M 518 0 ∧ M 518 0 ≤ 8) : z_Call mX12_isWind zF [(1, 517), (0, w)] M (zpF 0 (if 0 ≤ w ∧ w < M 518 0 then 1 else 0) M) := by
  refine z_enter (k := 0) rfl rfl rfl ?_
  refine zp_il1 (q := 1) dX12_isWind_0 rfl ?_
  refine zr_iconst (q := 2) dX12_isWind_1 rfl (z_in_of rfl) ?_
  refine zp_al0 (q := 3) dX12_isWind_2 rfl ?_
  refine zf_getG (v := 518) 0 (k517) (H.1) rfl fdX12_7 (q := 6) dX12_isWind_3 rfl rfl ?_
  refine zr_iconst (q := 7) dX12_isWind_6 rfl (z_in_of rfl) ?_
  refine zf_iald (v := _) (by first | assumption | exact k518 | exact k519 | exact k520 | exact k521 | exact k522 | exact k523 | exact k524 | exact k525 | exact k526 | exact k527 | exact k528 | exact k510 | exact k512 | exact k515 | exact k516 | exact k507 | exact k509 | exact k135 | exact k489 | exact k529 | exact k530) (rfl) (q := 8) dX12_isWind_7 rfl (by omega) (by omega) ?_
  refine zr_iconst (q := 9) dX12_isWind_8 rfl (z_in_of rfl) ?_
  refine zr_isub (q := 10) dX12_isWind_9 rfl (fun hA hB => by unfold z_in at hA hB ⊢; omega) ?_
  refine zp_callS3 (s_X12_in) mtX12_in wtX12_in wlX12_66 (q := 13) dX12_isWind_10 rfl rfl rfl rfl rfl (fun r S9 M9 h8 hP => ?_) (fun k S9 M9 hP => (z_no hP.1 rfl).elim)
  obtain ⟨rfl, rfl, h9⟩ := hP
  subst M9
  refine zr_ireturn dX12_isWind_13 rfl (z_fit_z (by split <;> decide)) ?_
  exact ⟨by congr 1; split <;> split <;> first | rfl | omega, rfl, rfl⟩
theorem s_X12_stands {M : zM} {w : Int} (H : zHm M) (h0 : 0 ≤ w) (h1 : w < 8) : z_Call mX12_stands zF [(1, 517), (0, w)] M (zpF 0 (if M 518 (4 + w) = 0 then 1 else 0) M) := by
  refine z_enter (k := 0) rfl rfl rfl ?_
  refine zp_al0 (q := 1) dX12_stands_0 rfl ?_
  refine zf_getG (v := 518) 0 (k517) (H.1) rfl fdX12_7 (q := 4) dX12_stands_1 rfl rfl ?_
  refine zr_iconst (q := 5) dX12_stands_4 rfl (z_in_of rfl) ?_
  refine zp_il1 (q := 6) dX12_stands_5 rfl ?_
  refine zr_iadd (q := 7) dX12_stands_6 rfl (fun hA hB => by unfold z_in at hA hB ⊢; omega) ?_
  refine zf_iald (v := _) (by first | assumption | exact k518 | exact k519 | exact k520 | exact k521 | exact k522 | exact k523 | exact k524 | exact k525 | exact k526 | exact k527 | exact k528 | exact k510 | exact k512 | exact k515 | exact k516 | exact k507 | exact k509 | exact k135 | exact k489 | exact k529 | exact k530) (rfl) (q := 8) dX12_stands_7 rfl (by omega) (by omega) ?_
  refine zr_if_ne (q := 15) (q2 := 11) dX12_stands_8 (by decide) rfl (fun h8 => ?_) (fun h8 => ?_)
  · refine zr_iconst (q := 16) dX12_stands_15 rfl (z_in_of rfl) ?_
    refine zr_ireturn dX12_stands_16 rfl (z_fit_z (by decide)) ?_
    exact ⟨by simp [*], rfl, rfl⟩
  · refine zr_iconst (q := 12) dX12_stands_11 rfl (z_in_of rfl) ?_
    refine zr_goto (q := 16) dX12_stands_12 (by decide) ?_
    refine zr_ireturn dX12_stands_16 rfl (z_fit_z (by decide)) ?_
    exact ⟨by simp [*], rfl, rfl⟩
theorem s_X12_of {M : zM} {b w : Int} (H : zHm M) (h0 : 0 ≤ b) (h1 : b < 20) (h2 : 0 ≤ w) (h3 : w < 7) : z_Call mX12_of zF [(1, 517), (0, b), (0, w)] M (zpF 0 (M 518 (20 + 7 * b + w)) M) := by
  refine z_enter (k := 0) rfl rfl rfl ?_
  refine zp_al0 (q := 1) dX12_of_0 rfl ?_
  refine zf_getG (v := 518) 0 (k517) (H.1) rfl fdX12_7 (q := 4) dX12_of_1 rfl rfl ?_
  refine zr_bipush (q := 6) dX12_of_4 rfl (z_in_of rfl) (by decide +kernel) ?_
  refine zr_bipush (q := 8) dX12_of_6 rfl (z_in_of rfl) (by decide +kernel) ?_
  refine zp_il1 (q := 9) dX12_of_8 rfl ?_
  refine zr_imul (q := 10) dX12_of_9 rfl (fun hA hB => by unfold z_in at hA hB ⊢; omega) ?_
  refine zr_iadd (q := 11) dX12_of_10 rfl (fun hA hB => by unfold z_in at hA hB ⊢; omega) ?_
  refine zp_il2 (q := 12) dX12_of_11 rfl ?_
  refine zr_iadd (q := 13) dX12_of_12 rfl (fun hA hB => by unfold z_in at hA hB ⊢; omega) ?_
  refine zf_iald (v := _) (by first | assumption | exact k518 | exact k519 | exact k520 | exact k521 | exact k522 | exact k523 | exact k524 | exact k525 | exact k526 | exact k527 | exact k528 | exact k510 | exact k512 | exact k515 | exact k516 | exact k507 | exact k509 | exact k135 | exact k489 | exact k529 | exact k530) (rfl) (q := 14) dX12_of_13 rfl (by omega) (by omega) ?_
  refine zr_ireturn dX12_of_14 rfl (z_fit_i _) ?_
  exact ⟨rfl, rfl, rfl⟩
