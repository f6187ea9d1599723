/-! dep: 60 -/
/-! ===== the reference: undo, save, restore ===== -/
section ZRU
variable {M : zM}
theorem s_X12_undo (H : zHm M) (h5 : 0 < M 517 5 ∧ M 517 5 ≤ 8) : z_Call mX12_undo zF [(1, 517)] M (fun r S' M' => r = (0, M 517 5 - 1) ∧ S' = zF ∧ (∀ z, z ≠ 517 → z ≠ 518 → M' z = M z) ∧ (∀ j, j ≠ 5 → j ≠ 7 → M' 517 j = M 517 j) ∧ M' 517 7 = 0 ∧ M' 517 5 = M 517 5 - 1 ∧ ∀ j, 0 ≤ j → j < 160 → M' 518 j = M 519 (160 * (M 517 5 - 1) + j)) := by
  refine z_enter (k := 0) rfl rfl rfl ?_
  refine zp_al0 (q := 1) dX12_undo_0 rfl ?_
  refine zp_al0 (q := 2) dX12_undo_1 rfl ?_
  refine zf_getG (v := M 517 5) 5 (k517) (rfl) rfl fdX12_59 (q := 5) dX12_undo_2 rfl rfl ?_
  refine zr_if_ne (q := 12) (q2 := 8) dX12_undo_5 (by decide) rfl (fun h5 => ?_) (fun h5 => ?_)
  · refine zr_iconst (q := 13) dX12_undo_12 rfl (z_in_of rfl) ?_
    refine zf_callV1 (k517) (s_X12_fails) mtX12_fails wiX12_fails weX12_fails wlX12_77 (q := 16) dX12_undo_13 rfl rfl rfl rfl rfl rfl rfl (fun r S9 M9 h8 hP => ?_) (fun k S9 M9 hP => (z_no hP.1 rfl).elim)
    obtain ⟨rfl, rfl, h9⟩ := hP
    subst M9
    refine zr_if_eq (q := 21) (q2 := 19) dX12_undo_16 (by decide) rfl (fun h16 => ?_) (fun h16 => ?_)
    · refine zp_al0 (q := 22) dX12_undo_21 rfl ?_
      refine zr_dup (q := 23) dX12_undo_22 rfl (Or.inr rfl) ?_
      refine zf_getG (v := M 517 5) 5 (k517) (rfl) rfl fdX12_59 (q := 26) dX12_undo_23 rfl rfl ?_
      refine zr_iconst (q := 27) dX12_undo_26 rfl (z_in_of rfl) ?_
      refine zr_isub (q := 28) dX12_undo_27 rfl (fun hA hB => by unfold z_in at hA hB ⊢; omega) ?_
      refine zf_putG 5 (k517) rfl fpX12_59 (q := 31) dX12_undo_28 rfl rfl (by decide) (z_fit_i _) ?_
      refine zp_al0 (q := 32) dX12_undo_31 rfl ?_
      refine zf_getG (v := 519) 1 (k517) (H.2.1) rfl fdX12_13 (q := 35) dX12_undo_32 rfl rfl ?_
      refine zr_sipush (q := 38) dX12_undo_35 rfl (z_in_of rfl) (by decide +kernel) ?_
      refine zp_al0 (q := 39) dX12_undo_38 rfl ?_
      refine zf_getG (v := M 517 5 - 1) 5 (k517) (z_up_eq) rfl fdX12_59 (q := 42) dX12_undo_39 rfl rfl ?_
      refine zr_imul (q := 43) dX12_undo_42 rfl (fun hA hB => by unfold z_in at hA hB ⊢; omega) ?_
      refine zp_al0 (q := 44) dX12_undo_43 rfl ?_
      refine zf_getG (v := 518) 0 (k517) (H.1) rfl fdX12_7 (q := 47) dX12_undo_44 rfl rfl ?_
      refine zr_iconst (q := 48) dX12_undo_47 rfl (z_in_of rfl) ?_
      refine zp_callS4 (s_X12_copies k519 k518 (by decide) (by omega) (by omega) (by omega) (by omega) (by omega) (by omega)) mtX12_copies wtX12_copies wlX12_62 (q := 51) dX12_undo_48 rfl rfl rfl rfl rfl (fun r S9 M9 h8 hP => ?_) (fun k S9 M9 hP => (z_no hP.1 rfl).elim)
      obtain ⟨rfl, rfl, h9⟩ := hP
      subst M9
      refine zp_al0 (q := 52) dX12_undo_51 rfl ?_
      refine zf_getG (v := M 517 5 - 1) 5 (k517) (by rw [zCpy_ne (by decide)]; exact z_up_eq) rfl fdX12_59 (q := 55) dX12_undo_52 rfl rfl ?_
      refine zr_ireturn dX12_undo_55 rfl (z_fit_i _) ?_
      refine ⟨rfl, rfl, fun z a b => by rw [zCpy_ne b, z_up_ne a, z_up_ne a], fun j a b => by rw [zCpy_ne (by decide), z_up_sl a, z_up_sl b], by rw [zCpy_ne (by decide), z_up_sl (by decide), z_up_eq], by rw [zCpy_ne (by decide), z_up_eq], fun j a b => ?_⟩
      rw [zCpy_in (by omega), z_up_ne (by decide), z_up_ne (by decide)]
      congr 1
      omega
    · exact absurd h16 (by decide)
  · exact absurd h5 (by omega)
theorem s_X12_undo_x (h5 : M 517 5 = 0) : z_Call mX12_undo zF [(1, 517)] M (zpF 0 0 (z_up M 517 7 1)) := by
  refine z_enter (k := 0) rfl rfl rfl ?_
  refine zp_al0 (q := 1) dX12_undo_0 rfl ?_
  refine zp_al0 (q := 2) dX12_undo_1 rfl ?_
  refine zf_getG (v := M 517 5) 5 (k517) (rfl) rfl fdX12_59 (q := 5) dX12_undo_2 rfl rfl ?_
  refine zr_if_ne (q := 12) (q2 := 8) dX12_undo_5 (by decide) rfl (fun h5_ => ?_) (fun h5_ => ?_)
  · exact absurd h5 h5_
  · refine zr_iconst (q := 9) dX12_undo_8 rfl (z_in_of rfl) ?_
    refine zr_goto (q := 13) dX12_undo_9 (by decide) ?_
    refine zf_callV1 (k517) (s_X12_fails) mtX12_fails wiX12_fails weX12_fails wlX12_77 (q := 16) dX12_undo_13 rfl rfl rfl rfl rfl rfl rfl (fun r S9 M9 h8 hP => ?_) (fun k S9 M9 hP => (z_no hP.1 rfl).elim)
    obtain ⟨rfl, rfl, h9⟩ := hP
    subst M9
    refine zr_if_eq (q := 21) (q2 := 19) dX12_undo_16 (by decide) rfl (fun h16 => ?_) (fun h16 => ?_)
    · exact absurd h16 (by decide)
    · refine zr_iconst (q := 20) dX12_undo_19 rfl (z_in_of rfl) ?_
      refine zr_ireturn dX12_undo_20 rfl (z_fit_i _) ?_
      exact ⟨rfl, rfl, rfl⟩
theorem s_X12_save (H : zHm M) : z_Call mX12_save zF [(1, 517)] M (fun r S' M' => r = (0, M 518 1) ∧ S' = zF ∧ (∀ z, z ≠ 517 → z ≠ 520 → M' z = M z) ∧ (∀ j, j ≠ 4 → j ≠ 7 → M' 517 j = M 517 j) ∧ M' 517 7 = 0 ∧ M' 517 4 = 1 ∧ ∀ j, 0 ≤ j → j < 160 → M' 520 j = M 518 j) := by
  refine z_enter (k := 0) rfl rfl rfl ?_
  refine zp_al0 (q := 1) dX12_save_0 rfl ?_
  refine zr_iconst (q := 2) dX12_save_1 rfl (z_in_of rfl) ?_
  refine zf_putG 7 (k517) rfl fpX12_52 (q := 5) dX12_save_2 rfl rfl (by decide) (z_fit_i _) ?_
  refine zp_al0 (q := 6) dX12_save_5 rfl ?_
  refine zr_iconst (q := 7) dX12_save_6 rfl (z_in_of rfl) ?_
  refine zf_putG 4 (k517) rfl fpX12_259 (q := 10) dX12_save_7 rfl rfl (by decide) (z_fit_z (by decide)) ?_
  refine zp_al0 (q := 11) dX12_save_10 rfl ?_
  refine zf_getG (v := 518) 0 (k517) (H.1) rfl fdX12_7 (q := 14) dX12_save_11 rfl rfl ?_
  refine zr_iconst (q := 15) dX12_save_14 rfl (z_in_of rfl) ?_
  refine zp_al0 (q := 16) dX12_save_15 rfl ?_
  refine zf_getG (v := 520) 2 (k517) (H.2.2.1) rfl fdX12_16 (q := 19) dX12_save_16 rfl rfl ?_
  refine zr_iconst (q := 20) dX12_save_19 rfl (z_in_of rfl) ?_
  refine zp_callS4 (s_X12_copies k518 k520 (by decide) (by omega) (by omega) (by omega) (by omega) (by omega) (by omega)) mtX12_copies wtX12_copies wlX12_62 (q := 23) dX12_save_20 rfl rfl rfl rfl rfl (fun r S9 M9 h8 hP => ?_) (fun k S9 M9 hP => (z_no hP.1 rfl).elim)
  obtain ⟨rfl, rfl, h9⟩ := hP
  subst M9
  refine zp_al0 (q := 24) dX12_save_23 rfl ?_
  refine zf_getG (v := 518) 0 (k517) (by rw [zCpy_ne (by decide)]; exact H.1) rfl fdX12_7 (q := 27) dX12_save_24 rfl rfl ?_
  refine zr_iconst (q := 28) dX12_save_27 rfl (z_in_of rfl) ?_
  refine zf_iald (v := M 518 1) (by first | assumption | exact k518 | exact k519 | exact k520 | exact k521 | exact k522 | exact k523 | exact k524 | exact k525 | exact k526 | exact k527 | exact k528 | exact k510 | exact k512 | exact k515 | exact k516 | exact k507 | exact k509 | exact k135 | exact k489 | exact k529 | exact k530) (by rw [zCpy_ne (by decide)]; rfl) (q := 29) dX12_save_28 rfl (by omega) (by omega) ?_
  refine zr_ireturn dX12_save_29 rfl (z_fit_i _) ?_
  refine ⟨rfl, rfl, fun z a b => by rw [zCpy_ne b, z_up_ne a, z_up_ne a], fun j a b => by rw [zCpy_ne (by decide), z_up_sl a, z_up_sl b], by rw [zCpy_ne (by decide), z_up_sl (by decide), z_up_eq], by rw [zCpy_ne (by decide), z_up_eq], fun j a b => ?_⟩
  rw [zCpy_in (by omega), z_up_ne (by decide), z_up_ne (by decide)]
  congr 1
  omega
theorem s_X12_restore (H : zHm M) (h4 : M 517 4 = 1) : z_Call mX12_restore zF [(1, 517)] M (fun r S' M' => r = (0, M 520 1) ∧ S' = zF ∧ (∀ z, z ≠ 517 → z ≠ 518 → M' z = M z) ∧ (∀ j, j ≠ 5 → j ≠ 7 → M' 517 j = M 517 j) ∧ M' 517 7 = 0 ∧ M' 517 5 = 0 ∧ ∀ j, 0 ≤ j → j < 160 → M' 518 j = M 520 j) := by
  refine z_enter (k := 0) rfl rfl rfl ?_
  refine zp_al0 (q := 1) dX12_restore_0 rfl ?_
  refine zp_al0 (q := 2) dX12_restore_1 rfl ?_
  refine zf_getG (v := 1) 4 (k517) (h4) rfl fdX12_259 (q := 5) dX12_restore_2 rfl rfl ?_
  refine zr_if_eq (q := 12) (q2 := 8) dX12_restore_5 (by decide) rfl (fun h5 => ?_) (fun h5 => ?_)
  · exact absurd h5 (by decide)
  · refine zr_iconst (q := 9) dX12_restore_8 rfl (z_in_of rfl) ?_
    refine zr_goto (q := 13) dX12_restore_9 (by decide) ?_
    refine zf_callV1 (k517) (s_X12_fails) mtX12_fails wiX12_fails weX12_fails wlX12_77 (q := 16) dX12_restore_13 rfl rfl rfl rfl rfl rfl rfl (fun r S9 M9 h8 hP => ?_) (fun k S9 M9 hP => (z_no hP.1 rfl).elim)
    obtain ⟨rfl, rfl, h9⟩ := hP
    subst M9
    refine zr_if_eq (q := 21) (q2 := 19) dX12_restore_16 (by decide) rfl (fun h16 => ?_) (fun h16 => ?_)
    · refine zp_al0 (q := 22) dX12_restore_21 rfl ?_
      refine zf_getG (v := 520) 2 (k517) (H.2.2.1) rfl fdX12_16 (q := 25) dX12_restore_22 rfl rfl ?_
      refine zr_iconst (q := 26) dX12_restore_25 rfl (z_in_of rfl) ?_
      refine zp_al0 (q := 27) dX12_restore_26 rfl ?_
      refine zf_getG (v := 518) 0 (k517) (H.1) rfl fdX12_7 (q := 30) dX12_restore_27 rfl rfl ?_
      refine zr_iconst (q := 31) dX12_restore_30 rfl (z_in_of rfl) ?_
      refine zp_callS4 (s_X12_copies k520 k518 (by decide) (by omega) (by omega) (by omega) (by omega) (by omega) (by omega)) mtX12_copies wtX12_copies wlX12_62 (q := 34) dX12_restore_31 rfl rfl rfl rfl rfl (fun r S9 M9 h8 hP => ?_) (fun k S9 M9 hP => (z_no hP.1 rfl).elim)
      obtain ⟨rfl, rfl, h9⟩ := hP
      subst M9
      refine zp_al0 (q := 35) dX12_restore_34 rfl ?_
      refine zr_iconst (q := 36) dX12_restore_35 rfl (z_in_of rfl) ?_
      refine zf_putG 5 (k517) rfl fpX12_59 (q := 39) dX12_restore_36 rfl rfl (by decide) (z_fit_i _) ?_
      refine zp_al0 (q := 40) dX12_restore_39 rfl ?_
      refine zf_getG (v := 518) 0 (k517) (by rw [z_up_sl (by decide), zCpy_ne (by decide)]; exact H.1) rfl fdX12_7 (q := 43) dX12_restore_40 rfl rfl ?_
      refine zr_iconst (q := 44) dX12_restore_43 rfl (z_in_of rfl) ?_
      refine zf_iald (v := M 520 1) (by first | assumption | exact k518 | exact k519 | exact k520 | exact k521 | exact k522 | exact k523 | exact k524 | exact k525 | exact k526 | exact k527 | exact k528 | exact k510 | exact k512 | exact k515 | exact k516 | exact k507 | exact k509 | exact k135 | exact k489 | exact k529 | exact k530) (by rw [z_up_ne (by decide), zCpy_in (by decide), z_up_ne (by decide)]; rfl) (q := 45) dX12_restore_44 rfl (by omega) (by omega) ?_
      refine zr_ireturn dX12_restore_45 rfl (z_fit_i _) ?_
      refine ⟨rfl, rfl, fun z a b => by rw [z_up_ne a, zCpy_ne b, z_up_ne a], fun j a b => by rw [z_up_sl a, zCpy_ne (by decide), z_up_sl b], by rw [z_up_sl (by decide), zCpy_ne (by decide), z_up_eq], z_up_eq, fun j a b => ?_⟩
      rw [z_up_ne (by decide), zCpy_in (by omega), z_up_ne (by decide)]
      congr 1
      omega
    · exact absurd h16 (by decide)
theorem s_X12_restore_x (h4 : M 517 4 = 0) : z_Call mX12_restore zF [(1, 517)] M (zpF 0 0 (z_up M 517 7 1)) := by
  refine z_enter (k := 0) rfl rfl rfl ?_
  refine zp_al0 (q := 1) dX12_restore_0 rfl ?_
  refine zp_al0 (q := 2) dX12_restore_1 rfl ?_
  refine zf_getG (v := 0) 4 (k517) (h4) rfl fdX12_259 (q := 5) dX12_restore_2 rfl rfl ?_
  refine zr_if_eq (q := 12) (q2 := 8) dX12_restore_5 (by decide) rfl (fun h5 => ?_) (fun h5 => ?_)
  · refine zr_iconst (q := 13) dX12_restore_12 rfl (z_in_of rfl) ?_
    refine zf_callV1 (k517) (s_X12_fails) mtX12_fails wiX12_fails weX12_fails wlX12_77 (q := 16) dX12_restore_13 rfl rfl rfl rfl rfl rfl rfl (fun r S9 M9 h8 hP => ?_) (fun k S9 M9 hP => (z_no hP.1 rfl).elim)
    obtain ⟨rfl, rfl, h9⟩ := hP
    subst M9
    refine zr_if_eq (q := 21) (q2 := 19) dX12_restore_16 (by decide) rfl (fun h16 => ?_) (fun h16 => ?_)
    · exact absurd h16 (by decide)
    · refine zr_iconst (q := 20) dX12_restore_19 rfl (z_in_of rfl) ?_
      refine zr_ireturn dX12_restore_20 rfl (z_fit_i _) ?_
      exact ⟨rfl, rfl, rfl⟩
  · exact absurd rfl h5
end ZRU
