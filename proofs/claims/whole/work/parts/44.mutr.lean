/-! dep: 40 41 42 43 -/
/-! ===== the reference: what it keeps, and what changes its row ===== -/
/-- all but the reference's row, what it keeps and what it counts with is as it was -/
def zMF (M M' : zM) : Prop := (∀ z, z ≠ 517 → z ≠ 518 → z ≠ 519 → z ≠ 524 → z ≠ 525 → z ≠ 526 → z ≠ 527 → M' z = M z) ∧ ∀ j, j ≠ 5 → j ≠ 7 → j ≠ 18 → j ≠ 19 → j ≠ 20 → M' 517 j = M 517 j
/-- f has been kept -/
def zKp (M M' : zM) (f : Int → Int) : Prop := (M 517 6 ≠ 0 ∧ M' 519 = M 519 ∧ M' 517 5 = M 517 5) ∨
  (M 517 6 = 0 ∧ M 517 5 = 8 ∧ M' 517 5 = 8 ∧ (∀ j, 0 ≤ j → j < 1120 → M' 519 j = M 519 (j + 160)) ∧ ∀ j, 0 ≤ j → j < 160 → M' 519 (1120 + j) = f j) ∨
  (M 517 6 = 0 ∧ M 517 5 < 8 ∧ M' 517 5 = M 517 5 + 1 ∧ (∀ j, j < 160 * M 517 5 → M' 519 j = M 519 j) ∧ ∀ j, 0 ≤ j → j < 160 → M' 519 (160 * M 517 5 + j) = f j)
theorem zHm.of {M M' : zM} (H : zHm M) (h : ∀ j, j ≠ 5 → j ≠ 7 → j ≠ 18 → j ≠ 19 → j ≠ 20 → M' 517 j = M 517 j) : zHm M' := by
  unfold zHm at H ⊢
  rw [h 0 (by decide) (by decide) (by decide) (by decide) (by decide), h 1 (by decide) (by decide) (by decide) (by decide) (by decide), h 2 (by decide) (by decide) (by decide) (by decide) (by decide), h 3 (by decide) (by decide) (by decide) (by decide) (by decide), h 8 (by decide) (by decide) (by decide) (by decide) (by decide), h 12 (by decide) (by decide) (by decide) (by decide) (by decide), h 14 (by decide) (by decide) (by decide) (by decide) (by decide), h 15 (by decide) (by decide) (by decide) (by decide) (by decide), h 16 (by decide) (by decide) (by decide) (by decide) (by decide), h 17 (by decide) (by decide) (by decide) (by decide) (by decide), h 22 (by decide) (by decide) (by decide) (by decide) (by decide)]
  exact H
theorem zCpy_g {M : zM} {u a b n : Int} (hn : 0 ≤ n) : z_up (zCpy M u a u b n) u (b + n) (M u (a + n)) = zCpy M u a u b (n + 1) := by
  funext z j
  unfold z_up
  unfold zCpy
  by_cases h1 : z = u ∧ j = b + n
  · obtain ⟨rfl, rfl⟩ := h1
    rw [if_pos ⟨rfl, rfl⟩, if_pos (by omega)]
    congr 1
    omega
  · rw [if_neg h1]
    by_cases h2 : z = u ∧ b ≤ j ∧ j < b + n
    · rw [if_pos h2, if_pos (by omega)]
    · rw [if_neg h2, if_neg (by omega)]
section ZMR
variable {M : zM} {u : Int}
abbrev zkA (u : Int) (M : zM) : zV → zS → zM → Prop := fun r S' M' => r = (9, 0) ∧ S' = zF ∧ (∀ z, z ≠ 517 → z ≠ 519 → M' z = M z) ∧ (∀ j, j ≠ 5 → j ≠ 7 → M' 517 j = M 517 j) ∧ M' 517 7 = 0 ∧ zKp M M' (M u)
theorem s_X12_keeps_w (h6 : M 517 6 ≠ 0) : z_Call mX12_keeps zF [(1, 517), (1, u)] M (zkA u M) := by
  refine z_enter (k := 1) rfl rfl rfl ?_
  refine zp_al0 (q := 1) dX12_keeps_0 rfl ?_
  refine zr_iconst (q := 2) dX12_keeps_1 rfl (z_in_of rfl) ?_
  refine zf_putG 7 (k517) rfl fpX12_52 (q := 5) dX12_keeps_2 rfl rfl (by decide) (z_fit_i _) ?_
  refine zp_al0 (q := 6) dX12_keeps_5 rfl ?_
  refine zf_getG (v := M 517 6) 6 (k517) (rfl) rfl fdX12_55 (q := 9) dX12_keeps_6 rfl rfl ?_
  refine zr_if_eq (q := 13) (q2 := 12) dX12_keeps_9 (by decide) rfl (fun h9 => ?_) (fun h9 => ?_)
  · exact absurd h9 h6
  · refine zr_return dX12_keeps_12 rfl ?_
    exact ⟨rfl, rfl, fun z z0 z1 => z_up_ne z0, fun j j0 j1 => z_up_sl j1, z_up_eq, Or.inl ⟨h6, rfl, rfl⟩⟩
theorem s_X12_keeps_a (H : zHm M) (hu : zR u 10 160) (hu7 : u ≠ 517) (hu9 : u ≠ 519) (h6 : M 517 6 = 0) (h5 : 0 ≤ M 517 5 ∧ M 517 5 < 8) : z_Call mX12_keeps zF [(1, 517), (1, u)] M (zkA u M) := by
  refine z_enter (k := 1) rfl rfl rfl ?_
  refine zp_al0 (q := 1) dX12_keeps_0 rfl ?_
  refine zr_iconst (q := 2) dX12_keeps_1 rfl (z_in_of rfl) ?_
  refine zf_putG 7 (k517) rfl fpX12_52 (q := 5) dX12_keeps_2 rfl rfl (by decide) (z_fit_i _) ?_
  refine zp_al0 (q := 6) dX12_keeps_5 rfl ?_
  refine zf_getG (v := 0) 6 (k517) (h6) rfl fdX12_55 (q := 9) dX12_keeps_6 rfl rfl ?_
  refine zr_if_eq (q := 13) (q2 := 12) dX12_keeps_9 (by decide) rfl (fun h9 => ?_) (fun h9 => ?_)
  · refine zp_al0 (q := 14) dX12_keeps_13 rfl ?_
    refine zf_getG (v := M 517 5) 5 (k517) (rfl) rfl fdX12_59 (q := 17) dX12_keeps_14 rfl rfl ?_
    refine zr_bipush (q := 19) dX12_keeps_17 rfl (z_in_of rfl) (by decide +kernel) ?_
    refine zr_icmp_ne (q := 63) (q2 := 22) dX12_keeps_19 (by decide) rfl (fun h19 => ?_) (fun h19 => ?_)
    · refine zp_al1 (q := 64) dX12_keeps_63 rfl ?_
      refine zr_iconst (q := 65) dX12_keeps_64 rfl (z_in_of rfl) ?_
      refine zp_al0 (q := 66) dX12_keeps_65 rfl ?_
      refine zf_getG (v := 519) 1 (k517) (H.2.1) rfl fdX12_13 (q := 69) dX12_keeps_66 rfl rfl ?_
      refine zr_sipush (q := 72) dX12_keeps_69 rfl (z_in_of rfl) (by decide +kernel) ?_
      refine zp_al0 (q := 73) dX12_keeps_72 rfl ?_
      refine zf_getG (v := M 517 5) 5 (k517) (rfl) rfl fdX12_59 (q := 76) dX12_keeps_73 rfl rfl ?_
      refine zr_imul (q := 77) dX12_keeps_76 rfl (fun hA hB => by unfold z_in at hA hB ⊢; omega) ?_
      refine zp_callS4 (s_X12_copies hu k519 hu9 (by omega) (by omega) (by omega) (by omega) (by omega) (by omega)) mtX12_copies wtX12_copies wlX12_62 (q := 80) dX12_keeps_77 rfl rfl rfl rfl rfl (fun r S9 M9 h8 hP => ?_) (fun k S9 M9 hP => (z_no hP.1 rfl).elim)
      obtain ⟨rfl, rfl, h9⟩ := hP
      subst M9
      refine zp_al0 (q := 81) dX12_keeps_80 rfl ?_
      refine zr_dup (q := 82) dX12_keeps_81 rfl (Or.inr rfl) ?_
      refine zf_getG (v := M 517 5) 5 (k517) (by rw [zCpy_ne (by decide), z_up_sl (by decide)]) rfl fdX12_59 (q := 85) dX12_keeps_82 rfl rfl ?_
      refine zr_iconst (q := 86) dX12_keeps_85 rfl (z_in_of rfl) ?_
      refine zr_iadd (q := 87) dX12_keeps_86 rfl (fun hA hB => by unfold z_in at hA hB ⊢; omega) ?_
      refine zf_putG 5 (k517) rfl fpX12_59 (q := 90) dX12_keeps_87 rfl rfl (by decide) (z_fit_i _) ?_
      refine zr_return dX12_keeps_90 rfl ?_
      refine ⟨rfl, rfl, fun z z0 z1 => by rw [z_up_ne z0, zCpy_ne z1, z_up_ne z0], fun j j0 j1 => by rw [z_up_sl j0, zCpy_ne (by decide), z_up_sl j1], by rw [z_up_sl (by decide), zCpy_ne (by decide), z_up_eq], Or.inr (Or.inr ⟨h6, h5.2, z_up_eq, fun j j0 => ?_, fun j j0 j1 => ?_⟩)⟩
      · rw [z_up_ne (by decide), zCpy_out (by omega), z_up_ne (by decide)]
      · rw [z_up_ne (by decide), zCpy_in (by omega), z_up_ne (by omega)]
        congr 1
        omega
    · exact absurd h19 (by omega)
  · exact absurd rfl h9
theorem s_X12_keeps_k (H : zHm M) {bc bs : Nat} {Q : zV → zS → zM → Prop} (kk : z_Ex mX12_keeps zF 53 [(1, 517), (1, u), (0, 1120)] [] (zCpy M 519 160 519 0 1120) bc bs Q) : ∀ (m : Nat) (k : Int), 0 ≤ k → k ≤ 1120 → 1120 - k < m →
    z_Ex mX12_keeps zF 24 [(1, 517), (1, u), (0, k)] [] (zCpy M 519 160 519 0 k) bc bs Q := by
  intro m
  induction m with
  | zero => intro k a1 a2 a3; omega
  | succ m ih =>
    intro k a1 a2 a3
    refine zp_il2 (q := 25) dX12_keeps_24 rfl ?_
    refine zr_sipush (q := 28) dX12_keeps_25 rfl (z_in_of rfl) (by decide +kernel) ?_
    refine zr_icmp_ge (q := 53) (q2 := 31) dX12_keeps_28 (by decide) rfl (fun h28 => ?_) (fun h28 => ?_)
    · have e : k = 1120 := by omega
      subst e
      exact kk
    · refine zp_al0 (q := 32) dX12_keeps_31 rfl ?_
      refine zf_getG (v := 519) 1 (k517) (by rw [zCpy_ne (by decide)]; exact H.2.1) rfl fdX12_13 (q := 35) dX12_keeps_32 rfl rfl ?_
      refine zp_il2 (q := 36) dX12_keeps_35 rfl ?_
      refine zp_al0 (q := 37) dX12_keeps_36 rfl ?_
      refine zf_getG (v := 519) 1 (k517) (by rw [zCpy_ne (by decide)]; exact H.2.1) rfl fdX12_13 (q := 40) dX12_keeps_37 rfl rfl ?_
      refine zp_il2 (q := 41) dX12_keeps_40 rfl ?_
      refine zr_sipush (q := 44) dX12_keeps_41 rfl (z_in_of rfl) (by decide +kernel) ?_
      refine zr_iadd (q := 45) dX12_keeps_44 rfl (fun hA hB => by unfold z_in at hA hB ⊢; omega) ?_
      refine zf_iald (v := M 519 (160 + k)) (by first | assumption | exact k518 | exact k519 | exact k520 | exact k521 | exact k522 | exact k523 | exact k524 | exact k525 | exact k526 | exact k527 | exact k528 | exact k510 | exact k512 | exact k515 | exact k516 | exact k507 | exact k509 | exact k135 | exact k489 | exact k529 | exact k530) (by rw [zCpy_out (by omega), Int.add_comm]) (q := 46) dX12_keeps_45 rfl (by omega) (by omega) ?_
      refine zf_iast (by first | assumption | exact k518 | exact k519 | exact k520 | exact k521 | exact k522 | exact k523 | exact k524 | exact k525 | exact k526 | exact k527 | exact k528 | exact k510 | exact k512 | exact k515 | exact k516 | exact k507 | exact k509 | exact k135 | exact k489 | exact k529 | exact k530) (q := 47) dX12_keeps_46 rfl (by omega) (by omega) ?_
      refine zp_inc2 (q := 50) dX12_keeps_47 rfl rfl rfl (fun hA => by unfold z_in at hA ⊢; omega) ?_
      refine zr_goto (q := 24) dX12_keeps_50 (by decide) ?_
      have e := zCpy_g (M := M) (u := 519) (a := 160) (b := 0) (n := k) a1
      rw [Int.zero_add] at e
      rw [e]
      exact ih (k + 1) (by omega) (by omega) (by omega)
theorem s_X12_keeps_f (H : zHm M) (hu : zR u 10 160) (hu7 : u ≠ 517) (hu9 : u ≠ 519) (h6 : M 517 6 = 0) (h5 : M 517 5 = 8) : z_Call mX12_keeps zF [(1, 517), (1, u)] M (zkA u M) := by
  have kk : z_Ex mX12_keeps zF 53 [(1, 517), (1, u), (0, 1120)] [] (zCpy (z_up M 517 7 0) 519 160 519 0 1120) mX12_keeps.2.2.2.2.2.1 mX12_keeps.2.2.2.2.2.2.1 (zkA u M) := by
    refine zp_al0 (q := 54) dX12_keeps_53 rfl ?_
    refine zr_dup (q := 55) dX12_keeps_54 rfl (Or.inr rfl) ?_
    refine zf_getG (v := 8) 5 (k517) (by rw [zCpy_ne (by decide), z_up_sl (by decide)]; exact h5) rfl fdX12_59 (q := 58) dX12_keeps_55 rfl rfl ?_
    refine zr_iconst (q := 59) dX12_keeps_58 rfl (z_in_of rfl) ?_
    refine zr_isub (q := 60) dX12_keeps_59 rfl (fun hA hB => by unfold z_in at hA hB ⊢; omega) ?_
    refine zf_putG 5 (k517) rfl fpX12_59 (q := 63) dX12_keeps_60 rfl rfl (by decide) (z_fit_i _) ?_
    refine zp_al1 (q := 64) dX12_keeps_63 rfl ?_
    refine zr_iconst (q := 65) dX12_keeps_64 rfl (z_in_of rfl) ?_
    refine zp_al0 (q := 66) dX12_keeps_65 rfl ?_
    refine zf_getG (v := 519) 1 (k517) (by rw [z_up_sl (by decide), zCpy_ne (by decide), z_up_sl (by decide)]; exact H.2.1) rfl fdX12_13 (q := 69) dX12_keeps_66 rfl rfl ?_
    refine zr_sipush (q := 72) dX12_keeps_69 rfl (z_in_of rfl) (by decide +kernel) ?_
    refine zp_al0 (q := 73) dX12_keeps_72 rfl ?_
    refine zf_getG (v := 7) 5 (k517) (z_up_eq) rfl fdX12_59 (q := 76) dX12_keeps_73 rfl rfl ?_
    refine zr_imul (q := 77) dX12_keeps_76 rfl (fun hA hB => by unfold z_in at hA hB ⊢; omega) ?_
    refine zp_callS4 (s_X12_copies hu k519 hu9 (by omega) (by omega) (by omega) (by omega) (by omega) (by omega)) mtX12_copies wtX12_copies wlX12_62 (q := 80) dX12_keeps_77 rfl rfl rfl rfl rfl (fun r S9 M9 h8 hP => ?_) (fun k S9 M9 hP => (z_no hP.1 rfl).elim)
    obtain ⟨rfl, rfl, h9⟩ := hP
    subst M9
    refine zp_al0 (q := 81) dX12_keeps_80 rfl ?_
    refine zr_dup (q := 82) dX12_keeps_81 rfl (Or.inr rfl) ?_
    refine zf_getG (v := 7) 5 (k517) (by rw [zCpy_ne (by decide)]; exact z_up_eq) rfl fdX12_59 (q := 85) dX12_keeps_82 rfl rfl ?_
    refine zr_iconst (q := 86) dX12_keeps_85 rfl (z_in_of rfl) ?_
    refine zr_iadd (q := 87) dX12_keeps_86 rfl (fun hA hB => by unfold z_in at hA hB ⊢; omega) ?_
    refine zf_putG 5 (k517) rfl fpX12_59 (q := 90) dX12_keeps_87 rfl rfl (by decide) (z_fit_i _) ?_
    refine zr_return dX12_keeps_90 rfl ?_
    refine ⟨rfl, rfl, fun z z0 z1 => by rw [z_up_ne z0, zCpy_ne z1, z_up_ne z0, zCpy_ne z1, z_up_ne z0], fun j j0 j1 => by rw [z_up_sl j0, zCpy_ne (by decide), z_up_sl j0, zCpy_ne (by decide), z_up_sl j1], by rw [z_up_sl (by decide), zCpy_ne (by decide), z_up_sl (by decide), zCpy_ne (by decide), z_up_eq], Or.inr (Or.inl ⟨h6, h5, z_up_eq, fun j j0 j1 => ?_, fun j j0 j1 => ?_⟩)⟩
    · rw [z_up_ne (by decide), zCpy_out (by omega), z_up_ne (by decide), zCpy_in (by omega), z_up_ne (by decide)]
      congr 1
      omega
    · rw [z_up_ne (by decide), zCpy_in (by omega), z_up_ne (by omega), zCpy_ne hu9, z_up_ne (by omega)]
      congr 1
      omega
  refine z_enter (k := 1) rfl rfl rfl ?_
  refine zp_al0 (q := 1) dX12_keeps_0 rfl ?_
  refine zr_iconst (q := 2) dX12_keeps_1 rfl (z_in_of rfl) ?_
  refine zf_putG 7 (k517) rfl fpX12_52 (q := 5) dX12_keeps_2 rfl rfl (by decide) (z_fit_i _) ?_
  refine zp_al0 (q := 6) dX12_keeps_5 rfl ?_
  refine zf_getG (v := 0) 6 (k517) (h6) rfl fdX12_55 (q := 9) dX12_keeps_6 rfl rfl ?_
  refine zr_if_eq (q := 13) (q2 := 12) dX12_keeps_9 (by decide) rfl (fun h9 => ?_) (fun h9 => ?_)
  · refine zp_al0 (q := 14) dX12_keeps_13 rfl ?_
    refine zf_getG (v := 8) 5 (k517) (h5) rfl fdX12_59 (q := 17) dX12_keeps_14 rfl rfl ?_
    refine zr_bipush (q := 19) dX12_keeps_17 rfl (z_in_of rfl) (by decide +kernel) ?_
    refine zr_icmp_ne (q := 63) (q2 := 22) dX12_keeps_19 (by decide) rfl (fun h19 => ?_) (fun h19 => ?_)
    · exact absurd rfl h19
    · refine zr_iconst (q := 23) dX12_keeps_22 rfl (z_in_of rfl) ?_
      refine zp_is2 (q := 24) dX12_keeps_23 rfl rfl rfl ?_
      have e := s_X12_keeps_k H.c kk 1121 0 (by omega) (by omega) (by omega)
      rw [show zCpy (z_up M 517 7 0) 519 160 519 0 0 = z_up M 517 7 0 from zCpy_0 _ _ _ _ _] at e
      exact e
  · exact absurd rfl h9
theorem s_X12_keeps (H : zHm M) (hu : zR u 10 160) (hu7 : u ≠ 517) (hu9 : u ≠ 519) (h5 : 0 ≤ M 517 5 ∧ M 517 5 ≤ 8) : z_Call mX12_keeps zF [(1, 517), (1, u)] M (zkA u M) := by
  by_cases h6 : M 517 6 = 0
  · by_cases h8 : M 517 5 = 8
    · exact s_X12_keeps_f H hu hu7 hu9 h6 h8
    · exact s_X12_keeps_a H hu hu7 hu9 h6 (by omega)
  · exact s_X12_keeps_w h6
/-- a change: its answer, its row -/
abbrev zmA (x : Int) (G : Int → Int) (M : zM) : zV → zS → zM → Prop := fun r S' M' => r = (0, x) ∧ S' = zF ∧ zMF M M' ∧ M' 517 7 = 0 ∧ zKp M M' (M 518) ∧ M' 518 = G
theorem zHm.k {M' : zM} (H : zHm M) (h : ∀ j, j ≠ 5 → j ≠ 7 → M' 517 j = M 517 j) : zHm M' := H.of (fun j j1 j2 _ _ _ => h j j1 j2)
theorem z_mF {M M1 M2 : zM} (h1 : ∀ z, z ≠ 517 → z ≠ 519 → M1 z = M z) (h2 : ∀ j, j ≠ 5 → j ≠ 7 → M1 517 j = M 517 j) (h3 : ∀ z, z ≠ 518 → M2 z = M1 z) : zMF M M2 :=
  ⟨fun z a b c _ _ _ _ => (h3 z b).trans (h1 z a c), fun j a b _ _ _ => (congrFun (h3 517 (by decide)) j).trans (h2 j a b)⟩
theorem z_mK {M M1 M2 : zM} {f : Int → Int} (h : zKp M M1 f) (h3 : ∀ z, z ≠ 518 → M2 z = M1 z) : zKp M M2 f := by
  unfold zKp at h ⊢
  rw [h3 517 (by decide), h3 519 (by decide)]
  exact h
theorem s_X12_addWind (H : zHm M) (hG : zWF (M 518)) (h5 : 0 ≤ M 517 5 ∧ M 517 5 ≤ 8) (h8 : M 518 0 < 8) : z_Call mX12_addWind zF [(1, 517)] M (zmA (M 518 0) (gAdd (M 518)) M) := by
  have hw := hG.w
  refine z_enter (k := 0) rfl rfl rfl ?_
  refine zp_al0 (q := 1) dX12_addWind_0 rfl ?_
  refine zp_al0 (q := 2) dX12_addWind_1 rfl ?_
  refine zf_getG (v := 518) 0 (k517) (H.1) rfl fdX12_7 (q := 5) dX12_addWind_2 rfl rfl ?_
  refine zr_iconst (q := 6) dX12_addWind_5 rfl (z_in_of rfl) ?_
  refine zf_iald (v := M 518 0) (by first | assumption | exact k518 | exact k519 | exact k520 | exact k521 | exact k522 | exact k523 | exact k524 | exact k525 | exact k526 | exact k527 | exact k528 | exact k510 | exact k512 | exact k515 | exact k516 | exact k507 | exact k509 | exact k135 | exact k489 | exact k529 | exact k530) (rfl) (q := 7) dX12_addWind_6 rfl (by omega) (by omega) ?_
  refine zr_bipush (q := 9) dX12_addWind_7 rfl (z_in_of rfl) (by decide +kernel) ?_
  refine zr_icmp_ne (q := 16) (q2 := 12) dX12_addWind_9 (by decide) rfl (fun h9 => ?_) (fun h9 => ?_)
  · refine zr_iconst (q := 17) dX12_addWind_16 rfl (z_in_of rfl) ?_
    refine zf_callV1 (k517) (s_X12_fails) mtX12_fails wiX12_fails weX12_fails wlX12_77 (q := 20) dX12_addWind_17 rfl rfl rfl rfl rfl rfl rfl (fun r S9 M9 h8 hP => ?_) (fun k S9 M9 hP => (z_no hP.1 rfl).elim)
    obtain ⟨rfl, rfl, h9⟩ := hP
    subst M9
    refine zr_if_eq (q := 25) (q2 := 23) dX12_addWind_20 (by decide) rfl (fun h20 => ?_) (fun h20 => ?_)
    · refine zp_al0 (q := 26) dX12_addWind_25 rfl ?_
      refine zp_al0 (q := 27) dX12_addWind_26 rfl ?_
      refine zf_getG (v := 518) 0 (k517) (H.1) rfl fdX12_7 (q := 30) dX12_addWind_27 rfl rfl ?_
      refine zf_callV1 (k517) (s_X12_keeps (u := 518) H.c k518 (by decide) (by decide) h5) mtX12_keeps wiX12_keeps weX12_keeps wlX12_80 (q := 33) dX12_addWind_30 rfl rfl rfl rfl rfl rfl rfl (fun r S9 M9 h8 hP => ?_) (fun k S9 M9 hP => (z_no hP.1 rfl).elim)
      obtain ⟨rfl, rfl, x1, x2, x3, x4⟩ := hP
      have H9 := H.c.k x2
      have e8 : M9 518 = M 518 := x1 518 (by decide) (by decide)
      refine zp_al0 (q := 34) dX12_addWind_33 rfl ?_
      refine zf_getG (v := 518) 0 (k517) (H9.1) rfl fdX12_7 (q := 37) dX12_addWind_34 rfl rfl ?_
      refine zr_iconst (q := 38) dX12_addWind_37 rfl (z_in_of rfl) ?_
      refine zp_al0 (q := 39) dX12_addWind_38 rfl ?_
      refine zf_getG (v := 518) 0 (k517) (H9.1) rfl fdX12_7 (q := 42) dX12_addWind_39 rfl rfl ?_
      refine zr_iconst (q := 43) dX12_addWind_42 rfl (z_in_of rfl) ?_
      refine zf_iald (v := M 518 0) (by first | assumption | exact k518 | exact k519 | exact k520 | exact k521 | exact k522 | exact k523 | exact k524 | exact k525 | exact k526 | exact k527 | exact k528 | exact k510 | exact k512 | exact k515 | exact k516 | exact k507 | exact k509 | exact k135 | exact k489 | exact k529 | exact k530) (by rw [e8]) (q := 44) dX12_addWind_43 rfl (by omega) (by omega) ?_
      refine zr_iadd (q := 45) dX12_addWind_44 rfl (fun hA hB => by unfold z_in at hA hB ⊢; omega) ?_
      refine zr_iconst (q := 46) dX12_addWind_45 rfl (z_in_of rfl) ?_
      refine zf_iast (by first | assumption | exact k518 | exact k519 | exact k520 | exact k521 | exact k522 | exact k523 | exact k524 | exact k525 | exact k526 | exact k527 | exact k528 | exact k510 | exact k512 | exact k515 | exact k516 | exact k507 | exact k509 | exact k135 | exact k489 | exact k529 | exact k530) (q := 47) dX12_addWind_46 rfl (by omega) (by omega) ?_
      refine zp_al0 (q := 48) dX12_addWind_47 rfl ?_
      refine zf_getG (v := 518) 0 (k517) (by rw [z_up_ne (by decide)]; exact H9.1) rfl fdX12_7 (q := 51) dX12_addWind_48 rfl rfl ?_
      refine zr_iconst (q := 52) dX12_addWind_51 rfl (z_in_of rfl) ?_
      refine zr_dup2 (q := 53) dX12_addWind_52 rfl (Or.inl rfl) (Or.inr rfl) ?_
      refine zf_iald (v := M 518 0) (by first | assumption | exact k518 | exact k519 | exact k520 | exact k521 | exact k522 | exact k523 | exact k524 | exact k525 | exact k526 | exact k527 | exact k528 | exact k510 | exact k512 | exact k515 | exact k516 | exact k507 | exact k509 | exact k135 | exact k489 | exact k529 | exact k530) (by rw [z_up_sl (by omega), e8]) (q := 54) dX12_addWind_53 rfl (by omega) (by omega) ?_
      refine zr_iconst (q := 55) dX12_addWind_54 rfl (z_in_of rfl) ?_
      refine zr_iadd (q := 56) dX12_addWind_55 rfl (fun hA hB => by unfold z_in at hA hB ⊢; omega) ?_
      refine zf_iast (by first | assumption | exact k518 | exact k519 | exact k520 | exact k521 | exact k522 | exact k523 | exact k524 | exact k525 | exact k526 | exact k527 | exact k528 | exact k510 | exact k512 | exact k515 | exact k516 | exact k507 | exact k509 | exact k135 | exact k489 | exact k529 | exact k530) (q := 57) dX12_addWind_56 rfl (by omega) (by omega) ?_
      refine zp_al0 (q := 58) dX12_addWind_57 rfl ?_
      refine zf_getG (v := 518) 0 (k517) (by rw [z_up_ne (by decide), z_up_ne (by decide)]; exact H9.1) rfl fdX12_7 (q := 61) dX12_addWind_58 rfl rfl ?_
      refine zr_iconst (q := 62) dX12_addWind_61 rfl (z_in_of rfl) ?_
      refine zf_iald (v := M 518 0 + 1) (by first | assumption | exact k518 | exact k519 | exact k520 | exact k521 | exact k522 | exact k523 | exact k524 | exact k525 | exact k526 | exact k527 | exact k528 | exact k510 | exact k512 | exact k515 | exact k516 | exact k507 | exact k509 | exact k135 | exact k489 | exact k529 | exact k530) (z_up_eq) (q := 63) dX12_addWind_62 rfl (by omega) (by omega) ?_
      refine zr_iconst (q := 64) dX12_addWind_63 rfl (z_in_of rfl) ?_
      refine zr_isub (q := 65) dX12_addWind_64 rfl (fun hA hB => by unfold z_in at hA hB ⊢; omega) ?_
      refine zr_ireturn dX12_addWind_65 rfl (z_fit_i _) ?_
      refine ⟨by rw [show M 518 0 + 1 - 1 = M 518 0 by omega], rfl, z_mF (M1 := M9) (fun z a b => (x1 z a b).trans (z_up_ne a)) (fun j a b => (x2 j a b).trans (z_up_sl b)) (fun z a => by rw [z_up_ne a, z_up_ne a]), by rw [z_up_ne (by decide), z_up_ne (by decide)]; exact x3, z_mK x4 (fun z a => by rw [z_up_ne a, z_up_ne a]), ?_⟩
      funext j
      unfold z_up gAdd zSet
      rw [e8]
      by_cases e : j = 0
      · rw [if_pos ⟨rfl, e⟩, if_pos e]
      · rw [if_neg (fun c => e c.2), if_neg e]
        by_cases e2 : j = 4 + M 518 0
        · rw [if_pos ⟨rfl, e2⟩, if_pos e2]
        · rw [if_neg (fun c => e2 c.2), if_neg e2]
    · exact absurd h20 (by decide)
  · exact absurd h9 (by omega)
theorem s_X12_addWind_x (H : zHm M) (h8 : M 518 0 = 8) : z_Call mX12_addWind zF [(1, 517)] M (zpF 0 0 (z_up M 517 7 1)) := by
  refine z_enter (k := 0) rfl rfl rfl ?_
  refine zp_al0 (q := 1) dX12_addWind_0 rfl ?_
  refine zp_al0 (q := 2) dX12_addWind_1 rfl ?_
  refine zf_getG (v := 518) 0 (k517) (H.1) rfl fdX12_7 (q := 5) dX12_addWind_2 rfl rfl ?_
  refine zr_iconst (q := 6) dX12_addWind_5 rfl (z_in_of rfl) ?_
  refine zf_iald (v := M 518 0) (by first | assumption | exact k518 | exact k519 | exact k520 | exact k521 | exact k522 | exact k523 | exact k524 | exact k525 | exact k526 | exact k527 | exact k528 | exact k510 | exact k512 | exact k515 | exact k516 | exact k507 | exact k509 | exact k135 | exact k489 | exact k529 | exact k530) (rfl) (q := 7) dX12_addWind_6 rfl (by omega) (by omega) ?_
  refine zr_bipush (q := 9) dX12_addWind_7 rfl (z_in_of rfl) (by decide +kernel) ?_
  refine zr_icmp_ne (q := 16) (q2 := 12) dX12_addWind_9 (by decide) rfl (fun h9 => ?_) (fun h9 => ?_)
  · exact absurd h8 h9
  · refine zr_iconst (q := 13) dX12_addWind_12 rfl (z_in_of rfl) ?_
    refine zr_goto (q := 17) dX12_addWind_13 (by decide) ?_
    refine zf_callV1 (k517) (s_X12_fails) mtX12_fails wiX12_fails weX12_fails wlX12_77 (q := 20) dX12_addWind_17 rfl rfl rfl rfl rfl rfl rfl (fun r S9 M9 h8 hP => ?_) (fun k S9 M9 hP => (z_no hP.1 rfl).elim)
    obtain ⟨rfl, rfl, h9⟩ := hP
    subst M9
    refine zr_if_eq (q := 25) (q2 := 23) dX12_addWind_20 (by decide) rfl (fun h20 => ?_) (fun h20 => ?_)
    · exact absurd h20 (by decide)
    · refine zr_iconst (q := 24) dX12_addWind_23 rfl (z_in_of rfl) ?_
      refine zr_ireturn dX12_addWind_24 rfl (z_fit_i _) ?_
      exact ⟨rfl, rfl, rfl⟩
end ZMR
