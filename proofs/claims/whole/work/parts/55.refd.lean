/-! dep: 50 51 52 54 -/
/-! ===== the reference: who wins, who falls, all rounds ===== -/
section ZRD
variable {M : zM} {p n : Int}
theorem s_X12_wins_b (H : zHm M) (hp : 0 ≤ p ∧ p ≤ 56) (hv : ∀ w, 0 ≤ w → w < 8 → -1 ≤ M 524 (p + w) ∧ M 524 (p + w) ≤ 1980) {bc bs : Nat} : ∀ (m : Nat) (k : Int), 0 ≤ k → k ≤ 8 → 8 - k < m → (∀ j, 0 ≤ j → j < k → ¬ (M 524 (p + j) ≠ -1 ∧ (zCn (fun w => M 524 (p + w)) = 1 ∨ zSm (fun w => M 524 (p + w)) < 2 * M 524 (p + j)))) →
    z_Ex mX12_wins zF 71 [(1, 517), (0, p), (0, zSm (fun w => M 524 (p + w))), (0, zCn (fun w => M 524 (p + w))), (0, k)] [] M bc bs (zpF 0 (zWn (fun w => M 524 (p + w))) M) := by
  intro m
  induction m with
  | zero => intro k h0 h1 h2; omega
  | succ m ih =>
    intro k h0 h1 h2 hx
    refine zp_il4 (q := 73) dX12_wins_71 rfl ?_
    refine zr_bipush (q := 75) dX12_wins_73 rfl (z_in_of rfl) (by decide +kernel) ?_
    refine zr_icmp_ge (q := 119) (q2 := 78) dX12_wins_75 (by decide) rfl (fun h75 => ?_) (fun h75 => ?_)
    · refine zr_iconst (q := 120) dX12_wins_119 rfl (z_in_of rfl) ?_
      refine zr_ireturn dX12_wins_120 rfl (z_fit_i _) ?_
      exact ⟨by unfold zWn; rw [zFs_no (fun j a1 a2 => decide_eq_false (hx j a1 (by omega)))], rfl, rfl⟩
    · have hb := hv k h0 (by omega)
      refine zp_al0 (q := 79) dX12_wins_78 rfl ?_
      refine zf_getG (v := 524) 14 (k517) (H.2.2.2.2.2.2.1) rfl fdX12_36 (q := 82) dX12_wins_79 rfl rfl ?_
      refine zp_il1 (q := 83) dX12_wins_82 rfl ?_
      refine zp_il4 (q := 85) dX12_wins_83 rfl ?_
      refine zr_iadd (q := 86) dX12_wins_85 rfl (fun hA hB => by unfold z_in at hA hB ⊢; omega) ?_
      refine zf_iald (v := _) (by first | assumption | exact k518 | exact k519 | exact k520 | exact k521 | exact k522 | exact k523 | exact k524 | exact k525 | exact k526 | exact k527 | exact k528 | exact k510 | exact k512 | exact k515 | exact k516 | exact k507 | exact k509 | exact k135 | exact k489 | exact k529 | exact k530) (rfl) (q := 87) dX12_wins_86 rfl (by omega) (by omega) ?_
      refine zr_if_lt (q := 113) (q2 := 90) dX12_wins_87 (by decide) rfl (fun h87 => ?_) (fun h87 => ?_)
      · refine zp_inc4 (q := 116) dX12_wins_113 rfl rfl rfl (fun hA => by unfold z_in at hA ⊢; omega) ?_
        refine zr_goto (q := 71) dX12_wins_116 (by decide) ?_
        exact ih (k + 1) (by omega) (by omega) (by omega) (fun j a1 a2 => by
          by_cases e : j = k
          · rw [e]; omega
          · exact hx j a1 (by omega))
      · refine zp_il3 (q := 91) dX12_wins_90 rfl ?_
        refine zr_iconst (q := 92) dX12_wins_91 rfl (z_in_of rfl) ?_
        refine zr_icmp_eq (q := 110) (q2 := 95) dX12_wins_92 (by decide) rfl (fun h92 => ?_) (fun h92 => ?_)
        · refine zp_il4 (q := 112) dX12_wins_110 rfl ?_
          refine zr_ireturn dX12_wins_112 rfl (z_fit_i _) ?_
          exact ⟨by unfold zWn; rw [zFs_yes h0 (by omega) (decide_eq_true (by omega)) (fun j a1 a2 => decide_eq_false (hx j a1 a2))], rfl, rfl⟩
        · refine zr_iconst (q := 96) dX12_wins_95 rfl (z_in_of rfl) ?_
          refine zp_al0 (q := 97) dX12_wins_96 rfl ?_
          refine zf_getG (v := 524) 14 (k517) (H.2.2.2.2.2.2.1) rfl fdX12_36 (q := 100) dX12_wins_97 rfl rfl ?_
          refine zp_il1 (q := 101) dX12_wins_100 rfl ?_
          refine zp_il4 (q := 103) dX12_wins_101 rfl ?_
          refine zr_iadd (q := 104) dX12_wins_103 rfl (fun hA hB => by unfold z_in at hA hB ⊢; omega) ?_
          refine zf_iald (v := _) (by first | assumption | exact k518 | exact k519 | exact k520 | exact k521 | exact k522 | exact k523 | exact k524 | exact k525 | exact k526 | exact k527 | exact k528 | exact k510 | exact k512 | exact k515 | exact k516 | exact k507 | exact k509 | exact k135 | exact k489 | exact k529 | exact k530) (rfl) (q := 105) dX12_wins_104 rfl (by omega) (by omega) ?_
          refine zr_imul (q := 106) dX12_wins_105 rfl (fun hA hB => by unfold z_in at hA hB ⊢; omega) ?_
          refine zp_il2 (q := 107) dX12_wins_106 rfl ?_
          refine zr_icmp_le (q := 113) (q2 := 110) dX12_wins_107 (by decide) rfl (fun h107 => ?_) (fun h107 => ?_)
          · refine zp_inc4 (q := 116) dX12_wins_113 rfl rfl rfl (fun hA => by unfold z_in at hA ⊢; omega) ?_
            refine zr_goto (q := 71) dX12_wins_116 (by decide) ?_
            exact ih (k + 1) (by omega) (by omega) (by omega) (fun j a1 a2 => by
              by_cases e : j = k
              · rw [e]; omega
              · exact hx j a1 (by omega))
          · refine zp_il4 (q := 112) dX12_wins_110 rfl ?_
            refine zr_ireturn dX12_wins_112 rfl (z_fit_i _) ?_
            exact ⟨by unfold zWn; rw [zFs_yes h0 (by omega) (decide_eq_true (by omega)) (fun j a1 a2 => decide_eq_false (hx j a1 a2))], rfl, rfl⟩
theorem s_X12_wins_l (H : zHm M) (hp : 0 ≤ p ∧ p ≤ 56) (hv : ∀ w, 0 ≤ w → w < 8 → -1 ≤ M 524 (p + w) ∧ M 524 (p + w) ≤ 1980) {bc bs : Nat} : ∀ (m : Nat) (k x y : Int), 0 ≤ k → k ≤ 8 → 8 - k < m → 0 ≤ x → x ≤ 1980 * k → x = zU (fun w => if M 524 (p + w) = -1 then 0 else M 524 (p + w)) k → 0 ≤ y → y ≤ k → y = zU (fun w => if M 524 (p + w) = -1 then 0 else 1) k →
    z_Ex mX12_wins zF 7 [(1, 517), (0, p), (0, x), (0, y), (0, k)] [] M bc bs (zpF 0 (zWn (fun w => M 524 (p + w))) M) := by
  intro m
  induction m with
  | zero => intro k x y h0 h1 h2; omega
  | succ m ih =>
    intro k x y h0 h1 h2 h3 h4 hx h5 h6 hy
    refine zp_il4 (q := 9) dX12_wins_7 rfl ?_
    refine zr_bipush (q := 11) dX12_wins_9 rfl (z_in_of rfl) (by decide +kernel) ?_
    refine zr_icmp_ge (q := 68) (q2 := 14) dX12_wins_11 (by decide) rfl (fun h11 => ?_) (fun h11 => ?_)
    · refine zr_iconst (q := 69) dX12_wins_68 rfl (z_in_of rfl) ?_
      refine zp_is4 (q := 71) dX12_wins_69 rfl rfl rfl ?_
      have e8 : k = 8 := by omega
      subst e8
      rw [show x = zSm (fun w => M 524 (p + w)) from hx, show y = zCn (fun w => M 524 (p + w)) from hy]
      exact s_X12_wins_b H hp hv 9 0 (by omega) (by omega) (by omega) (fun j a1 a2 => by omega)
    · have hb := hv k h0 (by omega)
      refine zp_il3 (q := 15) dX12_wins_14 rfl ?_
      refine zp_al0 (q := 16) dX12_wins_15 rfl ?_
      refine zf_getG (v := 524) 14 (k517) (H.2.2.2.2.2.2.1) rfl fdX12_36 (q := 19) dX12_wins_16 rfl rfl ?_
      refine zp_il1 (q := 20) dX12_wins_19 rfl ?_
      refine zp_il4 (q := 22) dX12_wins_20 rfl ?_
      refine zr_iadd (q := 23) dX12_wins_22 rfl (fun hA hB => by unfold z_in at hA hB ⊢; omega) ?_
      refine zf_iald (v := _) (by first | assumption | exact k518 | exact k519 | exact k520 | exact k521 | exact k522 | exact k523 | exact k524 | exact k525 | exact k526 | exact k527 | exact k528 | exact k510 | exact k512 | exact k515 | exact k516 | exact k507 | exact k509 | exact k135 | exact k489 | exact k529 | exact k530) (rfl) (q := 24) dX12_wins_23 rfl (by omega) (by omega) ?_
      refine zr_if_ge (q := 31) (q2 := 27) dX12_wins_24 (by decide) rfl (fun h24 => ?_) (fun h24 => ?_)
      · refine zr_iconst (q := 32) dX12_wins_31 rfl (z_in_of rfl) ?_
        refine zr_iadd (q := 33) dX12_wins_32 rfl (fun hA hB => by unfold z_in at hA hB ⊢; omega) ?_
        refine zp_is3 (q := 34) dX12_wins_33 rfl rfl rfl ?_
        refine zp_il2 (q := 35) dX12_wins_34 rfl ?_
        refine zp_al0 (q := 36) dX12_wins_35 rfl ?_
        refine zf_getG (v := 524) 14 (k517) (H.2.2.2.2.2.2.1) rfl fdX12_36 (q := 39) dX12_wins_36 rfl rfl ?_
        refine zp_il1 (q := 40) dX12_wins_39 rfl ?_
        refine zp_il4 (q := 42) dX12_wins_40 rfl ?_
        refine zr_iadd (q := 43) dX12_wins_42 rfl (fun hA hB => by unfold z_in at hA hB ⊢; omega) ?_
        refine zf_iald (v := _) (by first | assumption | exact k518 | exact k519 | exact k520 | exact k521 | exact k522 | exact k523 | exact k524 | exact k525 | exact k526 | exact k527 | exact k528 | exact k510 | exact k512 | exact k515 | exact k516 | exact k507 | exact k509 | exact k135 | exact k489 | exact k529 | exact k530) (rfl) (q := 44) dX12_wins_43 rfl (by omega) (by omega) ?_
        refine zr_if_ge (q := 51) (q2 := 47) dX12_wins_44 (by decide) rfl (fun h44 => ?_) (fun h44 => ?_)
        · refine zp_al0 (q := 52) dX12_wins_51 rfl ?_
          refine zf_getG (v := 524) 14 (k517) (H.2.2.2.2.2.2.1) rfl fdX12_36 (q := 55) dX12_wins_52 rfl rfl ?_
          refine zp_il1 (q := 56) dX12_wins_55 rfl ?_
          refine zp_il4 (q := 58) dX12_wins_56 rfl ?_
          refine zr_iadd (q := 59) dX12_wins_58 rfl (fun hA hB => by unfold z_in at hA hB ⊢; omega) ?_
          refine zf_iald (v := _) (by first | assumption | exact k518 | exact k519 | exact k520 | exact k521 | exact k522 | exact k523 | exact k524 | exact k525 | exact k526 | exact k527 | exact k528 | exact k510 | exact k512 | exact k515 | exact k516 | exact k507 | exact k509 | exact k135 | exact k489 | exact k529 | exact k530) (rfl) (q := 60) dX12_wins_59 rfl (by omega) (by omega) ?_
          refine zr_iadd (q := 61) dX12_wins_60 rfl (fun hA hB => by unfold z_in at hA hB ⊢; omega) ?_
          refine zp_is2 (q := 62) dX12_wins_61 rfl rfl rfl ?_
          refine zp_inc4 (q := 65) dX12_wins_62 rfl rfl rfl (fun hA => by unfold z_in at hA ⊢; omega) ?_
          refine zr_goto (q := 7) dX12_wins_65 (by decide) ?_
          exact ih (k + 1) _ _ (by omega) (by omega) (by omega) (by omega) (by omega) (by rw [zU_s _ (by omega), ← hx]; omega) (by omega) (by omega) (by rw [zU_s _ (by omega), ← hy]; omega)
        · refine zr_iconst (q := 48) dX12_wins_47 rfl (z_in_of rfl) ?_
          refine zr_goto (q := 60) dX12_wins_48 (by decide) ?_
          refine zr_iadd (q := 61) dX12_wins_60 rfl (fun hA hB => by unfold z_in at hA hB ⊢; omega) ?_
          refine zp_is2 (q := 62) dX12_wins_61 rfl rfl rfl ?_
          refine zp_inc4 (q := 65) dX12_wins_62 rfl rfl rfl (fun hA => by unfold z_in at hA ⊢; omega) ?_
          refine zr_goto (q := 7) dX12_wins_65 (by decide) ?_
          exact ih (k + 1) _ _ (by omega) (by omega) (by omega) (by omega) (by omega) (by rw [zU_s _ (by omega), ← hx]; omega) (by omega) (by omega) (by rw [zU_s _ (by omega), ← hy]; omega)
      · refine zr_iconst (q := 28) dX12_wins_27 rfl (z_in_of rfl) ?_
        refine zr_goto (q := 32) dX12_wins_28 (by decide) ?_
        refine zr_iadd (q := 33) dX12_wins_32 rfl (fun hA hB => by unfold z_in at hA hB ⊢; omega) ?_
        refine zp_is3 (q := 34) dX12_wins_33 rfl rfl rfl ?_
        refine zp_il2 (q := 35) dX12_wins_34 rfl ?_
        refine zp_al0 (q := 36) dX12_wins_35 rfl ?_
        refine zf_getG (v := 524) 14 (k517) (H.2.2.2.2.2.2.1) rfl fdX12_36 (q := 39) dX12_wins_36 rfl rfl ?_
        refine zp_il1 (q := 40) dX12_wins_39 rfl ?_
        refine zp_il4 (q := 42) dX12_wins_40 rfl ?_
        refine zr_iadd (q := 43) dX12_wins_42 rfl (fun hA hB => by unfold z_in at hA hB ⊢; omega) ?_
        refine zf_iald (v := _) (by first | assumption | exact k518 | exact k519 | exact k520 | exact k521 | exact k522 | exact k523 | exact k524 | exact k525 | exact k526 | exact k527 | exact k528 | exact k510 | exact k512 | exact k515 | exact k516 | exact k507 | exact k509 | exact k135 | exact k489 | exact k529 | exact k530) (rfl) (q := 44) dX12_wins_43 rfl (by omega) (by omega) ?_
        refine zr_if_ge (q := 51) (q2 := 47) dX12_wins_44 (by decide) rfl (fun h44 => ?_) (fun h44 => ?_)
        · refine zp_al0 (q := 52) dX12_wins_51 rfl ?_
          refine zf_getG (v := 524) 14 (k517) (H.2.2.2.2.2.2.1) rfl fdX12_36 (q := 55) dX12_wins_52 rfl rfl ?_
          refine zp_il1 (q := 56) dX12_wins_55 rfl ?_
          refine zp_il4 (q := 58) dX12_wins_56 rfl ?_
          refine zr_iadd (q := 59) dX12_wins_58 rfl (fun hA hB => by unfold z_in at hA hB ⊢; omega) ?_
          refine zf_iald (v := _) (by first | assumption | exact k518 | exact k519 | exact k520 | exact k521 | exact k522 | exact k523 | exact k524 | exact k525 | exact k526 | exact k527 | exact k528 | exact k510 | exact k512 | exact k515 | exact k516 | exact k507 | exact k509 | exact k135 | exact k489 | exact k529 | exact k530) (rfl) (q := 60) dX12_wins_59 rfl (by omega) (by omega) ?_
          refine zr_iadd (q := 61) dX12_wins_60 rfl (fun hA hB => by unfold z_in at hA hB ⊢; omega) ?_
          refine zp_is2 (q := 62) dX12_wins_61 rfl rfl rfl ?_
          refine zp_inc4 (q := 65) dX12_wins_62 rfl rfl rfl (fun hA => by unfold z_in at hA ⊢; omega) ?_
          refine zr_goto (q := 7) dX12_wins_65 (by decide) ?_
          exact ih (k + 1) _ _ (by omega) (by omega) (by omega) (by omega) (by omega) (by rw [zU_s _ (by omega), ← hx]; omega) (by omega) (by omega) (by rw [zU_s _ (by omega), ← hy]; omega)
        · refine zr_iconst (q := 48) dX12_wins_47 rfl (z_in_of rfl) ?_
          refine zr_goto (q := 60) dX12_wins_48 (by decide) ?_
          refine zr_iadd (q := 61) dX12_wins_60 rfl (fun hA hB => by unfold z_in at hA hB ⊢; omega) ?_
          refine zp_is2 (q := 62) dX12_wins_61 rfl rfl rfl ?_
          refine zp_inc4 (q := 65) dX12_wins_62 rfl rfl rfl (fun hA => by unfold z_in at hA ⊢; omega) ?_
          refine zr_goto (q := 7) dX12_wins_65 (by decide) ?_
          exact ih (k + 1) _ _ (by omega) (by omega) (by omega) (by omega) (by omega) (by rw [zU_s _ (by omega), ← hx]; omega) (by omega) (by omega) (by rw [zU_s _ (by omega), ← hy]; omega)
theorem s_X12_wins (H : zHm M) (hp : 0 ≤ p ∧ p ≤ 56) (hv : ∀ w, 0 ≤ w → w < 8 → -1 ≤ M 524 (p + w) ∧ M 524 (p + w) ≤ 1980) : z_Call mX12_wins zF [(1, 517), (0, p)] M (zpF 0 (zWn (fun w => M 524 (p + w))) M) := by
  refine z_enter (k := 3) rfl rfl rfl ?_
  refine zr_iconst (q := 1) dX12_wins_0 rfl (z_in_of rfl) ?_
  refine zp_is2 (q := 2) dX12_wins_1 rfl rfl rfl ?_
  refine zr_iconst (q := 3) dX12_wins_2 rfl (z_in_of rfl) ?_
  refine zp_is3 (q := 4) dX12_wins_3 rfl rfl rfl ?_
  refine zr_iconst (q := 5) dX12_wins_4 rfl (z_in_of rfl) ?_
  refine zp_is4 (q := 7) dX12_wins_5 rfl rfl rfl ?_
  exact s_X12_wins_l H hp hv 9 0 0 0 (by omega) (by omega) (by omega) (by omega) (by omega) rfl (by omega) (by omega) rfl
/-- the place among those with the fewest votes that falls -/
def zIx (V : Int → Int) (s : Int) : Int := if 2 ≤ zWc V then ((5 * s + 3) % 16) % zWc V else 0
theorem zIx_range {V : Int → Int} {w : Int} (h0 : 0 ≤ w) (h1 : w < 8) (h2 : V w ≠ -1) (s : Int) : 0 ≤ zIx V s ∧ zIx V s < zWc V := by
  have h4 := zFw_ex h0 h1 h2
  unfold zIx
  split
  · exact ⟨Int.emod_nonneg _ (by omega), Int.emod_lt_of_pos _ (by omega)⟩
  · omega
theorem s_X12_falls_w (H : zHm M) (hp : 0 ≤ p ∧ p ≤ 56) {i : Int} (hi : 0 ≤ i ∧ i < zWc (fun w => M 524 (p + w))) {x : Int} {bc bs : Nat} : ∀ (m : Nat) (k : Int), 0 ≤ k → k ≤ 8 → 8 - k < m → zCnt (fun w => M 524 (p + w)) (zFw (fun w => M 524 (p + w))) k ≤ i →
    z_Ex mX12_falls zF 140 [(1, 517), (0, p), (0, zFw (fun w => M 524 (p + w))), (0, x), (0, i - zCnt (fun w => M 524 (p + w)) (zFw (fun w => M 524 (p + w))) k), (0, k)] [] M bc bs (zpF 0 (zNth (fun w => M 524 (p + w)) (zFw (fun w => M 524 (p + w))) i) M) := by
  intro m
  induction m with
  | zero => intro k h0 h1 h2; omega
  | succ m ih =>
    intro k h0 h1 h2 h3
    have hk8 : k < 8 := by
      apply Classical.byContradiction
      intro c
      have e : k = 8 := by omega
      subst e
      have : zWc (fun w => M 524 (p + w)) = zCnt (fun w => M 524 (p + w)) (zFw (fun w => M 524 (p + w))) 8 := rfl
      omega
    have hcr := zCnt_range (fun w => M 524 (p + w)) (zFw (fun w => M 524 (p + w))) (k := 8) (by omega)
    have hc9 : zWc (fun w => M 524 (p + w)) = zCnt (fun w => M 524 (p + w)) (zFw (fun w => M 524 (p + w))) 8 := rfl
    have hck := zCnt_range (fun w => M 524 (p + w)) (zFw (fun w => M 524 (p + w))) h0
    have e := ih (k + 1) (by omega)
    rw [zCnt_s _ _ h0] at e
    refine zp_al0 (q := 141) dX12_falls_140 rfl ?_
    refine zf_getG (v := 524) 14 (k517) (H.2.2.2.2.2.2.1) rfl fdX12_36 (q := 144) dX12_falls_141 rfl rfl ?_
    refine zp_il1 (q := 145) dX12_falls_144 rfl ?_
    refine zp_il5 (q := 147) dX12_falls_145 rfl ?_
    refine zr_iadd (q := 148) dX12_falls_147 rfl (fun hA hB => by unfold z_in at hA hB ⊢; omega) ?_
    refine zf_iald (v := _) (by first | assumption | exact k518 | exact k519 | exact k520 | exact k521 | exact k522 | exact k523 | exact k524 | exact k525 | exact k526 | exact k527 | exact k528 | exact k510 | exact k512 | exact k515 | exact k516 | exact k507 | exact k509 | exact k135 | exact k489 | exact k529 | exact k530) (rfl) (q := 149) dX12_falls_148 rfl (by omega) (by omega) ?_
    refine zp_il2 (q := 150) dX12_falls_149 rfl ?_
    refine zr_icmp_ne (q := 158) (q2 := 153) dX12_falls_150 (by decide) rfl (fun h150 => ?_) (fun h150 => ?_)
    · refine zp_al0 (q := 159) dX12_falls_158 rfl ?_
      refine zf_getG (v := 524) 14 (k517) (H.2.2.2.2.2.2.1) rfl fdX12_36 (q := 162) dX12_falls_159 rfl rfl ?_
      refine zp_il1 (q := 163) dX12_falls_162 rfl ?_
      refine zp_il5 (q := 165) dX12_falls_163 rfl ?_
      refine zr_iadd (q := 166) dX12_falls_165 rfl (fun hA hB => by unfold z_in at hA hB ⊢; omega) ?_
      refine zf_iald (v := _) (by first | assumption | exact k518 | exact k519 | exact k520 | exact k521 | exact k522 | exact k523 | exact k524 | exact k525 | exact k526 | exact k527 | exact k528 | exact k510 | exact k512 | exact k515 | exact k516 | exact k507 | exact k509 | exact k135 | exact k489 | exact k529 | exact k530) (rfl) (q := 167) dX12_falls_166 rfl (by omega) (by omega) ?_
      refine zp_il2 (q := 168) dX12_falls_167 rfl ?_
      refine zr_icmp_ne (q := 174) (q2 := 171) dX12_falls_168 (by decide) rfl (fun h168 => ?_) (fun h168 => ?_)
      · refine zp_inc5 (q := 177) dX12_falls_174 rfl rfl rfl (fun hA => by unfold z_in at hA ⊢; omega) ?_
        refine zr_goto (q := 140) dX12_falls_177 (by decide) ?_
        first
        | (have t : M 524 (p + k) = zFw (fun w => M 524 (p + w)) := by omega
           rw [if_pos t] at e
           rw [show i - zCnt (fun w => M 524 (p + w)) (zFw (fun w => M 524 (p + w))) k + -1 = i - (zCnt (fun w => M 524 (p + w)) (zFw (fun w => M 524 (p + w))) k + 1) by omega]
           exact e (by omega) (by omega) (by omega))
        | (have t : ¬ M 524 (p + k) = zFw (fun w => M 524 (p + w)) := by omega
           rw [if_neg t, Int.add_zero] at e
           exact e (by omega) (by omega) (by omega))
      · refine zp_inc4 (q := 174) dX12_falls_171 rfl rfl rfl (fun hA => by unfold z_in at hA ⊢; omega) ?_
        refine zp_inc5 (q := 177) dX12_falls_174 rfl rfl rfl (fun hA => by unfold z_in at hA ⊢; omega) ?_
        refine zr_goto (q := 140) dX12_falls_177 (by decide) ?_
        first
        | (have t : M 524 (p + k) = zFw (fun w => M 524 (p + w)) := by omega
           rw [if_pos t] at e
           rw [show i - zCnt (fun w => M 524 (p + w)) (zFw (fun w => M 524 (p + w))) k + -1 = i - (zCnt (fun w => M 524 (p + w)) (zFw (fun w => M 524 (p + w))) k + 1) by omega]
           exact e (by omega) (by omega) (by omega))
        | (have t : ¬ M 524 (p + k) = zFw (fun w => M 524 (p + w)) := by omega
           rw [if_neg t, Int.add_zero] at e
           exact e (by omega) (by omega) (by omega))
    · refine zp_il4 (q := 155) dX12_falls_153 rfl ?_
      refine zr_if_le (q := 180) (q2 := 158) dX12_falls_155 (by decide) rfl (fun h155 => ?_) (fun h155 => ?_)
      · refine zp_il5 (q := 182) dX12_falls_180 rfl ?_
        refine zr_ireturn dX12_falls_182 rfl (z_fit_i _) ?_
        exact ⟨by rw [zNth_eq (fun w => M 524 (p + w)) _ h0 hk8 (show M 524 (p + k) = _ by omega) (by omega)], rfl, rfl⟩
      · refine zp_al0 (q := 159) dX12_falls_158 rfl ?_
        refine zf_getG (v := 524) 14 (k517) (H.2.2.2.2.2.2.1) rfl fdX12_36 (q := 162) dX12_falls_159 rfl rfl ?_
        refine zp_il1 (q := 163) dX12_falls_162 rfl ?_
        refine zp_il5 (q := 165) dX12_falls_163 rfl ?_
        refine zr_iadd (q := 166) dX12_falls_165 rfl (fun hA hB => by unfold z_in at hA hB ⊢; omega) ?_
        refine zf_iald (v := _) (by first | assumption | exact k518 | exact k519 | exact k520 | exact k521 | exact k522 | exact k523 | exact k524 | exact k525 | exact k526 | exact k527 | exact k528 | exact k510 | exact k512 | exact k515 | exact k516 | exact k507 | exact k509 | exact k135 | exact k489 | exact k529 | exact k530) (rfl) (q := 167) dX12_falls_166 rfl (by omega) (by omega) ?_
        refine zp_il2 (q := 168) dX12_falls_167 rfl ?_
        refine zr_icmp_ne (q := 174) (q2 := 171) dX12_falls_168 (by decide) rfl (fun h168 => ?_) (fun h168 => ?_)
        · refine zp_inc5 (q := 177) dX12_falls_174 rfl rfl rfl (fun hA => by unfold z_in at hA ⊢; omega) ?_
          refine zr_goto (q := 140) dX12_falls_177 (by decide) ?_
          first
          | (have t : M 524 (p + k) = zFw (fun w => M 524 (p + w)) := by omega
             rw [if_pos t] at e
             rw [show i - zCnt (fun w => M 524 (p + w)) (zFw (fun w => M 524 (p + w))) k + -1 = i - (zCnt (fun w => M 524 (p + w)) (zFw (fun w => M 524 (p + w))) k + 1) by omega]
             exact e (by omega) (by omega) (by omega))
          | (have t : ¬ M 524 (p + k) = zFw (fun w => M 524 (p + w)) := by omega
             rw [if_neg t, Int.add_zero] at e
             exact e (by omega) (by omega) (by omega))
        · refine zp_inc4 (q := 174) dX12_falls_171 rfl rfl rfl (fun hA => by unfold z_in at hA ⊢; omega) ?_
          refine zp_inc5 (q := 177) dX12_falls_174 rfl rfl rfl (fun hA => by unfold z_in at hA ⊢; omega) ?_
          refine zr_goto (q := 140) dX12_falls_177 (by decide) ?_
          first
          | (have t : M 524 (p + k) = zFw (fun w => M 524 (p + w)) := by omega
             rw [if_pos t] at e
             rw [show i - zCnt (fun w => M 524 (p + w)) (zFw (fun w => M 524 (p + w))) k + -1 = i - (zCnt (fun w => M 524 (p + w)) (zFw (fun w => M 524 (p + w))) k + 1) by omega]
             exact e (by omega) (by omega) (by omega))
          | (have t : ¬ M 524 (p + k) = zFw (fun w => M 524 (p + w)) := by omega
             rw [if_neg t, Int.add_zero] at e
             exact e (by omega) (by omega) (by omega))
/-- what falls leaves -/
def zFl (M : zM) (n : Int) (V : Int → Int) : zM := if 2 ≤ zWc V then z_up (z_up M 527 n 1) 517 20 ((5 * M 517 20 + 3) % 16) else z_up M 527 n 0
theorem zFl_524 (M : zM) (n : Int) (V : Int → Int) : zFl M n V 524 = M 524 := by
  unfold zFl
  split
  · rw [z_up_ne (by decide), z_up_ne (by decide)]
  · rw [z_up_ne (by decide)]
theorem s_X12_falls_c (H : zHm M) (hn : 0 ≤ n ∧ n < 8) (h18 : M 517 18 = n) (hs : 0 ≤ M 517 20 ∧ M 517 20 < 16) {w : Int} (w0 : 0 ≤ w) (w1 : w < 8) (w2 : M 524 (8 * n + w) ≠ -1) {bc bs : Nat} :
    z_Ex mX12_falls zF 81 [(1, 517), (0, 8 * n), (0, zFw (fun w => M 524 (8 * n + w))), (0, zWc (fun w => M 524 (8 * n + w))), (0, 8), (9, 0)] [] M bc bs (fun r S' M' => r = (0, zNth (fun w => M 524 (8 * n + w)) (zFw (fun w => M 524 (8 * n + w))) (zIx (fun w => M 524 (8 * n + w)) (M 517 20))) ∧ S' = zF ∧ M' = zFl M n (fun w => M 524 (8 * n + w))) := by
  have hix := zIx_range (V := fun w => M 524 (8 * n + w)) w0 w1 w2 (M 517 20)
  have hcr := zCnt_range (fun w => M 524 (8 * n + w)) (zFw (fun w => M 524 (8 * n + w))) (k := 8) (by omega)
  have hc9 : zWc (fun w => M 524 (8 * n + w)) = zCnt (fun w => M 524 (8 * n + w)) (zFw (fun w => M 524 (8 * n + w))) 8 := rfl
  have key : ∀ i, i = zIx (fun w => M 524 (8 * n + w)) (M 517 20) → z_Ex mX12_falls zF 140 [(1, 517), (0, 8 * n), (0, zFw (fun w => M 524 (8 * n + w))), (0, zWc (fun w => M 524 (8 * n + w))), (0, i), (0, 0)] [] (zFl M n (fun w => M 524 (8 * n + w))) bc bs (fun r S' M' => r = (0, zNth (fun w => M 524 (8 * n + w)) (zFw (fun w => M 524 (8 * n + w))) (zIx (fun w => M 524 (8 * n + w)) (M 517 20))) ∧ S' = zF ∧ M' = zFl M n (fun w => M 524 (8 * n + w))) := by
    intro i hi
    subst hi
    have HF : zHm (zFl M n (fun w => M 524 (8 * n + w))) := by
      unfold zFl
      split
      · exact H.of (fun j _ _ _ _ j20 => by rw [z_up_sl j20, z_up_ne (by decide)])
      · exact H.of (fun j _ _ _ _ _ => by rw [z_up_ne (by decide)])
    have e := s_X12_falls_w (M := zFl M n (fun w => M 524 (8 * n + w))) (p := 8 * n) HF (by omega) (i := zIx (fun w => M 524 (8 * n + w)) (M 517 20)) (x := zWc (fun w => M 524 (8 * n + w))) (bc := bc) (bs := bs) (by rw [zFl_524]; exact hix) 9 0 (by omega) (by omega) (by omega) (by rw [zFl_524]; exact hix.1)
    rw [zFl_524, show zCnt (fun w => M 524 (8 * n + w)) (zFw (fun w => M 524 (8 * n + w))) 0 = 0 from rfl, Int.sub_zero] at e
    exact e
  refine zp_al0 (q := 82) dX12_falls_81 rfl ?_
  refine zf_getG (v := 527) 17 (k517) (H.2.2.2.2.2.2.2.2.2.1) rfl fdX12_45 (q := 85) dX12_falls_82 rfl rfl ?_
  refine zp_al0 (q := 86) dX12_falls_85 rfl ?_
  refine zf_getG (v := n) 18 (k517) (h18) rfl fdX12_110 (q := 89) dX12_falls_86 rfl rfl ?_
  refine zp_il3 (q := 90) dX12_falls_89 rfl ?_
  refine zr_iconst (q := 91) dX12_falls_90 rfl (z_in_of rfl) ?_
  refine zr_icmp_le (q := 98) (q2 := 94) dX12_falls_91 (by decide) rfl (fun h91 => ?_) (fun h91 => ?_)
  · refine zr_iconst (q := 99) dX12_falls_98 rfl (z_in_of rfl) ?_
    refine zf_zast (by first | assumption | exact k518 | exact k519 | exact k520 | exact k521 | exact k522 | exact k523 | exact k524 | exact k525 | exact k526 | exact k527 | exact k528 | exact k510 | exact k512 | exact k515 | exact k516 | exact k507 | exact k509 | exact k135 | exact k489 | exact k529 | exact k530) (q := 100) dX12_falls_99 rfl (by omega) (by omega) (by decide) ?_
    refine zp_il3 (q := 101) dX12_falls_100 rfl ?_
    refine zr_iconst (q := 102) dX12_falls_101 rfl (z_in_of rfl) ?_
    refine zr_icmp_le (q := 120) (q2 := 105) dX12_falls_102 (by decide) rfl (fun h102 => ?_) (fun h102 => ?_)
    · refine zp_il3 (q := 121) dX12_falls_120 rfl ?_
      refine zr_iconst (q := 122) dX12_falls_121 rfl (z_in_of rfl) ?_
      refine zr_icmp_le (q := 134) (q2 := 125) dX12_falls_122 (by decide) rfl (fun h122 => ?_) (fun h122 => ?_)
      · refine zr_iconst (q := 135) dX12_falls_134 rfl (z_in_of rfl) ?_
        refine zp_is4 (q := 137) dX12_falls_135 rfl rfl rfl ?_
        refine zr_iconst (q := 138) dX12_falls_137 rfl (z_in_of rfl) ?_
        refine zp_is5 (q := 140) dX12_falls_138 rfl rfl rfl ?_
        first
        | (exfalso; omega)
        | (have t : 2 ≤ zWc (fun w => M 524 (8 * n + w)) := by omega
           have e := key (((5 * M 517 20 + 3) % 16) % zWc (fun w => M 524 (8 * n + w))) (by unfold zIx; rw [if_pos t])
           unfold zFl at e ⊢
           rw [if_pos t] at e ⊢
           exact e)
        | (have t : ¬ 2 ≤ zWc (fun w => M 524 (8 * n + w)) := by omega
           have e := key 0 (by unfold zIx; rw [if_neg t])
           unfold zFl at e ⊢
           rw [if_neg t] at e ⊢
           exact e)
      · refine zp_al0 (q := 126) dX12_falls_125 rfl ?_
        refine zf_getG (v := (5 * M 517 20 + 3) % 16) 20 (k517) (by first | (exfalso; omega) | exact z_up_eq) rfl fdX12_113 (q := 129) dX12_falls_126 rfl rfl ?_
        refine zp_il3 (q := 130) dX12_falls_129 rfl ?_
        refine zr_irem (q := 131) dX12_falls_130 rfl (by omega) (by omega) ?_
        refine zr_goto (q := 135) dX12_falls_131 (by decide) ?_
        refine zp_is4 (q := 137) dX12_falls_135 rfl rfl rfl ?_
        refine zr_iconst (q := 138) dX12_falls_137 rfl (z_in_of rfl) ?_
        refine zp_is5 (q := 140) dX12_falls_138 rfl rfl rfl ?_
        first
        | (exfalso; omega)
        | (have t : 2 ≤ zWc (fun w => M 524 (8 * n + w)) := by omega
           have e := key (((5 * M 517 20 + 3) % 16) % zWc (fun w => M 524 (8 * n + w))) (by unfold zIx; rw [if_pos t])
           unfold zFl at e ⊢
           rw [if_pos t] at e ⊢
           exact e)
        | (have t : ¬ 2 ≤ zWc (fun w => M 524 (8 * n + w)) := by omega
           have e := key 0 (by unfold zIx; rw [if_neg t])
           unfold zFl at e ⊢
           rw [if_neg t] at e ⊢
           exact e)
    · refine zp_al0 (q := 106) dX12_falls_105 rfl ?_
      refine zr_iconst (q := 107) dX12_falls_106 rfl (z_in_of rfl) ?_
      refine zp_al0 (q := 108) dX12_falls_107 rfl ?_
      refine zf_getG (v := M 517 20) 20 (k517) (by rw [z_up_ne (by decide)]) rfl fdX12_113 (q := 111) dX12_falls_108 rfl rfl ?_
      refine zr_imul (q := 112) dX12_falls_111 rfl (fun hA hB => by unfold z_in at hA hB ⊢; omega) ?_
      refine zr_iconst (q := 113) dX12_falls_112 rfl (z_in_of rfl) ?_
      refine zr_iadd (q := 114) dX12_falls_113 rfl (fun hA hB => by unfold z_in at hA hB ⊢; omega) ?_
      refine zr_bipush (q := 116) dX12_falls_114 rfl (z_in_of rfl) (by decide +kernel) ?_
      refine zr_irem (q := 117) dX12_falls_116 rfl (by omega) (by omega) ?_
      refine zf_putG 20 (k517) rfl fpX12_113 (q := 120) dX12_falls_117 rfl rfl (by decide) (z_fit_i _) ?_
      refine zp_il3 (q := 121) dX12_falls_120 rfl ?_
      refine zr_iconst (q := 122) dX12_falls_121 rfl (z_in_of rfl) ?_
      refine zr_icmp_le (q := 134) (q2 := 125) dX12_falls_122 (by decide) rfl (fun h122 => ?_) (fun h122 => ?_)
      · refine zr_iconst (q := 135) dX12_falls_134 rfl (z_in_of rfl) ?_
        refine zp_is4 (q := 137) dX12_falls_135 rfl rfl rfl ?_
        refine zr_iconst (q := 138) dX12_falls_137 rfl (z_in_of rfl) ?_
        refine zp_is5 (q := 140) dX12_falls_138 rfl rfl rfl ?_
        first
        | (exfalso; omega)
        | (have t : 2 ≤ zWc (fun w => M 524 (8 * n + w)) := by omega
           have e := key (((5 * M 517 20 + 3) % 16) % zWc (fun w => M 524 (8 * n + w))) (by unfold zIx; rw [if_pos t])
           unfold zFl at e ⊢
           rw [if_pos t] at e ⊢
           exact e)
        | (have t : ¬ 2 ≤ zWc (fun w => M 524 (8 * n + w)) := by omega
           have e := key 0 (by unfold zIx; rw [if_neg t])
           unfold zFl at e ⊢
           rw [if_neg t] at e ⊢
           exact e)
      · refine zp_al0 (q := 126) dX12_falls_125 rfl ?_
        refine zf_getG (v := (5 * M 517 20 + 3) % 16) 20 (k517) (by first | (exfalso; omega) | exact z_up_eq) rfl fdX12_113 (q := 129) dX12_falls_126 rfl rfl ?_
        refine zp_il3 (q := 130) dX12_falls_129 rfl ?_
        refine zr_irem (q := 131) dX12_falls_130 rfl (by omega) (by omega) ?_
        refine zr_goto (q := 135) dX12_falls_131 (by decide) ?_
        refine zp_is4 (q := 137) dX12_falls_135 rfl rfl rfl ?_
        refine zr_iconst (q := 138) dX12_falls_137 rfl (z_in_of rfl) ?_
        refine zp_is5 (q := 140) dX12_falls_138 rfl rfl rfl ?_
        first
        | (exfalso; omega)
        | (have t : 2 ≤ zWc (fun w => M 524 (8 * n + w)) := by omega
           have e := key (((5 * M 517 20 + 3) % 16) % zWc (fun w => M 524 (8 * n + w))) (by unfold zIx; rw [if_pos t])
           unfold zFl at e ⊢
           rw [if_pos t] at e ⊢
           exact e)
        | (have t : ¬ 2 ≤ zWc (fun w => M 524 (8 * n + w)) := by omega
           have e := key 0 (by unfold zIx; rw [if_neg t])
           unfold zFl at e ⊢
           rw [if_neg t] at e ⊢
           exact e)
  · refine zr_iconst (q := 95) dX12_falls_94 rfl (z_in_of rfl) ?_
    refine zr_goto (q := 99) dX12_falls_95 (by decide) ?_
    refine zf_zast (by first | assumption | exact k518 | exact k519 | exact k520 | exact k521 | exact k522 | exact k523 | exact k524 | exact k525 | exact k526 | exact k527 | exact k528 | exact k510 | exact k512 | exact k515 | exact k516 | exact k507 | exact k509 | exact k135 | exact k489 | exact k529 | exact k530) (q := 100) dX12_falls_99 rfl (by omega) (by omega) (by decide) ?_
    refine zp_il3 (q := 101) dX12_falls_100 rfl ?_
    refine zr_iconst (q := 102) dX12_falls_101 rfl (z_in_of rfl) ?_
    refine zr_icmp_le (q := 120) (q2 := 105) dX12_falls_102 (by decide) rfl (fun h102 => ?_) (fun h102 => ?_)
    · refine zp_il3 (q := 121) dX12_falls_120 rfl ?_
      refine zr_iconst (q := 122) dX12_falls_121 rfl (z_in_of rfl) ?_
      refine zr_icmp_le (q := 134) (q2 := 125) dX12_falls_122 (by decide) rfl (fun h122 => ?_) (fun h122 => ?_)
      · refine zr_iconst (q := 135) dX12_falls_134 rfl (z_in_of rfl) ?_
        refine zp_is4 (q := 137) dX12_falls_135 rfl rfl rfl ?_
        refine zr_iconst (q := 138) dX12_falls_137 rfl (z_in_of rfl) ?_
        refine zp_is5 (q := 140) dX12_falls_138 rfl rfl rfl ?_
        first
        | (exfalso; omega)
        | (have t : 2 ≤ zWc (fun w => M 524 (8 * n + w)) := by omega
           have e := key (((5 * M 517 20 + 3) % 16) % zWc (fun w => M 524 (8 * n + w))) (by unfold zIx; rw [if_pos t])
           unfold zFl at e ⊢
           rw [if_pos t] at e ⊢
           exact e)
        | (have t : ¬ 2 ≤ zWc (fun w => M 524 (8 * n + w)) := by omega
           have e := key 0 (by unfold zIx; rw [if_neg t])
           unfold zFl at e ⊢
           rw [if_neg t] at e ⊢
           exact e)
      · refine zp_al0 (q := 126) dX12_falls_125 rfl ?_
        refine zf_getG (v := (5 * M 517 20 + 3) % 16) 20 (k517) (by first | (exfalso; omega) | exact z_up_eq) rfl fdX12_113 (q := 129) dX12_falls_126 rfl rfl ?_
        refine zp_il3 (q := 130) dX12_falls_129 rfl ?_
        refine zr_irem (q := 131) dX12_falls_130 rfl (by omega) (by omega) ?_
        refine zr_goto (q := 135) dX12_falls_131 (by decide) ?_
        refine zp_is4 (q := 137) dX12_falls_135 rfl rfl rfl ?_
        refine zr_iconst (q := 138) dX12_falls_137 rfl (z_in_of rfl) ?_
        refine zp_is5 (q := 140) dX12_falls_138 rfl rfl rfl ?_
        first
        | (exfalso; omega)
        | (have t : 2 ≤ zWc (fun w => M 524 (8 * n + w)) := by omega
           have e := key (((5 * M 517 20 + 3) % 16) % zWc (fun w => M 524 (8 * n + w))) (by unfold zIx; rw [if_pos t])
           unfold zFl at e ⊢
           rw [if_pos t] at e ⊢
           exact e)
        | (have t : ¬ 2 ≤ zWc (fun w => M 524 (8 * n + w)) := by omega
           have e := key 0 (by unfold zIx; rw [if_neg t])
           unfold zFl at e ⊢
           rw [if_neg t] at e ⊢
           exact e)
    · refine zp_al0 (q := 106) dX12_falls_105 rfl ?_
      refine zr_iconst (q := 107) dX12_falls_106 rfl (z_in_of rfl) ?_
      refine zp_al0 (q := 108) dX12_falls_107 rfl ?_
      refine zf_getG (v := M 517 20) 20 (k517) (by rw [z_up_ne (by decide)]) rfl fdX12_113 (q := 111) dX12_falls_108 rfl rfl ?_
      refine zr_imul (q := 112) dX12_falls_111 rfl (fun hA hB => by unfold z_in at hA hB ⊢; omega) ?_
      refine zr_iconst (q := 113) dX12_falls_112 rfl (z_in_of rfl) ?_
      refine zr_iadd (q := 114) dX12_falls_113 rfl (fun hA hB => by unfold z_in at hA hB ⊢; omega) ?_
      refine zr_bipush (q := 116) dX12_falls_114 rfl (z_in_of rfl) (by decide +kernel) ?_
      refine zr_irem (q := 117) dX12_falls_116 rfl (by omega) (by omega) ?_
      refine zf_putG 20 (k517) rfl fpX12_113 (q := 120) dX12_falls_117 rfl rfl (by decide) (z_fit_i _) ?_
      refine zp_il3 (q := 121) dX12_falls_120 rfl ?_
      refine zr_iconst (q := 122) dX12_falls_121 rfl (z_in_of rfl) ?_
      refine zr_icmp_le (q := 134) (q2 := 125) dX12_falls_122 (by decide) rfl (fun h122 => ?_) (fun h122 => ?_)
      · refine zr_iconst (q := 135) dX12_falls_134 rfl (z_in_of rfl) ?_
        refine zp_is4 (q := 137) dX12_falls_135 rfl rfl rfl ?_
        refine zr_iconst (q := 138) dX12_falls_137 rfl (z_in_of rfl) ?_
        refine zp_is5 (q := 140) dX12_falls_138 rfl rfl rfl ?_
        first
        | (exfalso; omega)
        | (have t : 2 ≤ zWc (fun w => M 524 (8 * n + w)) := by omega
           have e := key (((5 * M 517 20 + 3) % 16) % zWc (fun w => M 524 (8 * n + w))) (by unfold zIx; rw [if_pos t])
           unfold zFl at e ⊢
           rw [if_pos t] at e ⊢
           exact e)
        | (have t : ¬ 2 ≤ zWc (fun w => M 524 (8 * n + w)) := by omega
           have e := key 0 (by unfold zIx; rw [if_neg t])
           unfold zFl at e ⊢
           rw [if_neg t] at e ⊢
           exact e)
      · refine zp_al0 (q := 126) dX12_falls_125 rfl ?_
        refine zf_getG (v := (5 * M 517 20 + 3) % 16) 20 (k517) (by first | (exfalso; omega) | exact z_up_eq) rfl fdX12_113 (q := 129) dX12_falls_126 rfl rfl ?_
        refine zp_il3 (q := 130) dX12_falls_129 rfl ?_
        refine zr_irem (q := 131) dX12_falls_130 rfl (by omega) (by omega) ?_
        refine zr_goto (q := 135) dX12_falls_131 (by decide) ?_
        refine zp_is4 (q := 137) dX12_falls_135 rfl rfl rfl ?_
        refine zr_iconst (q := 138) dX12_falls_137 rfl (z_in_of rfl) ?_
        refine zp_is5 (q := 140) dX12_falls_138 rfl rfl rfl ?_
        first
        | (exfalso; omega)
        | (have t : 2 ≤ zWc (fun w => M 524 (8 * n + w)) := by omega
           have e := key (((5 * M 517 20 + 3) % 16) % zWc (fun w => M 524 (8 * n + w))) (by unfold zIx; rw [if_pos t])
           unfold zFl at e ⊢
           rw [if_pos t] at e ⊢
           exact e)
        | (have t : ¬ 2 ≤ zWc (fun w => M 524 (8 * n + w)) := by omega
           have e := key 0 (by unfold zIx; rw [if_neg t])
           unfold zFl at e ⊢
           rw [if_neg t] at e ⊢
           exact e)
theorem zFw_le {V : Int → Int} (hv : ∀ w, 0 ≤ w → w < 8 → -1 ≤ V w ∧ V w ≤ 1980) {k : Int} (h0 : 0 ≤ k) (h8 : k ≤ 8) : -1 ≤ zFwk V k ∧ zFwk V k ≤ 1980 := by
  rcases zFwk_cases V h0 with ⟨a, _⟩ | ⟨_, ⟨v, v0, v1, v2⟩, _⟩
  · omega
  · have := hv v v0 (by omega)
    omega
theorem s_X12_falls_l (H : zHm M) (hn : 0 ≤ n ∧ n < 8) (h18 : M 517 18 = n) (hs : 0 ≤ M 517 20 ∧ M 517 20 < 16) (hv : ∀ w, 0 ≤ w → w < 8 → -1 ≤ M 524 (8 * n + w) ∧ M 524 (8 * n + w) ≤ 1980) {w : Int} (w0 : 0 ≤ w) (w1 : w < 8) (w2 : M 524 (8 * n + w) ≠ -1) {bc bs : Nat} : ∀ (m : Nat) (k x y : Int), 0 ≤ k → k ≤ 8 → 8 - k < m → (zFwk (fun w => M 524 (8 * n + w)) k = -1 → x = 3000 ∧ y = 0) → (zFwk (fun w => M 524 (8 * n + w)) k ≠ -1 → x = zFwk (fun w => M 524 (8 * n + w)) k ∧ y = zCnt (fun w => M 524 (8 * n + w)) (zFwk (fun w => M 524 (8 * n + w)) k) k) →
    z_Ex mX12_falls zF 9 [(1, 517), (0, 8 * n), (0, x), (0, y), (0, k), (9, 0)] [] M bc bs (fun r S' M' => r = (0, zNth (fun w => M 524 (8 * n + w)) (zFw (fun w => M 524 (8 * n + w))) (zIx (fun w => M 524 (8 * n + w)) (M 517 20))) ∧ S' = zF ∧ M' = zFl M n (fun w => M 524 (8 * n + w))) := by
  intro m
  induction m with
  | zero => intro k x y h0 h1 h2; omega
  | succ m ih =>
    intro k x y h0 h1 h2 hx hy
    have hfk := zFw_le (V := fun w => M 524 (8 * n + w)) hv h0 h1
    have hcs := zFwk_cases (fun w => M 524 (8 * n + w)) h0
    have hct := zCnt_range (fun w => M 524 (8 * n + w)) (zFwk (fun w => M 524 (8 * n + w)) k) h0
    have hyr : 0 ≤ y ∧ y ≤ k ∧ 0 ≤ x := by
      by_cases e : zFwk (fun w => M 524 (8 * n + w)) k = -1
      · have := hx e; omega
      · have := hy e; omega
    have e := ih (k + 1)
    rw [zFwk_s _ h0] at e
    refine zp_il4 (q := 11) dX12_falls_9 rfl ?_
    refine zr_bipush (q := 13) dX12_falls_11 rfl (z_in_of rfl) (by decide +kernel) ?_
    refine zr_icmp_ge (q := 81) (q2 := 16) dX12_falls_13 (by decide) rfl (fun h13 => ?_) (fun h13 => ?_)
    · have e8 : k = 8 := by omega
      subst e8
      have hex := zFw_ex (V := fun w => M 524 (8 * n + w)) w0 w1 w2
      have t2 := hy hex.1
      rw [t2.1, t2.2]
      exact s_X12_falls_c H hn h18 hs w0 w1 w2
    · have hb := hv k h0 (by omega)
      refine zp_al0 (q := 17) dX12_falls_16 rfl ?_
      refine zf_getG (v := 524) 14 (k517) (H.2.2.2.2.2.2.1) rfl fdX12_36 (q := 20) dX12_falls_17 rfl rfl ?_
      refine zp_il1 (q := 21) dX12_falls_20 rfl ?_
      refine zp_il4 (q := 23) dX12_falls_21 rfl ?_
      refine zr_iadd (q := 24) dX12_falls_23 rfl (fun hA hB => by unfold z_in at hA hB ⊢; omega) ?_
      refine zf_iald (v := _) (by first | assumption | exact k518 | exact k519 | exact k520 | exact k521 | exact k522 | exact k523 | exact k524 | exact k525 | exact k526 | exact k527 | exact k528 | exact k510 | exact k512 | exact k515 | exact k516 | exact k507 | exact k509 | exact k135 | exact k489 | exact k529 | exact k530) (rfl) (q := 25) dX12_falls_24 rfl (by omega) (by omega) ?_
      refine zr_if_lt (q := 75) (q2 := 28) dX12_falls_25 (by decide) rfl (fun h25 => ?_) (fun h25 => ?_)
      · refine zp_inc4 (q := 78) dX12_falls_75 rfl rfl rfl (fun hA => by unfold z_in at hA ⊢; omega) ?_
        refine zr_goto (q := 9) dX12_falls_78 (by decide) ?_
        first
        | (have t : M 524 (8 * n + k) = -1 := by omega
           rw [if_neg (fun c => c.1 t)] at e
           refine e x y (by omega) (by omega) (by omega) hx (fun c => ⟨(hy c).1, ?_⟩)
           rw [zCnt_s _ _ h0, if_neg (show ¬ M 524 (8 * n + k) = _ by omega), Int.add_zero]
           exact (hy c).2)
        | (have t1 : x < M 524 (8 * n + k) := by omega
           have t : zFwk (fun w => M 524 (8 * n + w)) k ≠ -1 := fun c => by have := hx c; omega
           have t2 := hy t
           rw [if_neg (fun c => by omega)] at e
           refine e x y (by omega) (by omega) (by omega) hx (fun c => ⟨(hy c).1, ?_⟩)
           rw [zCnt_s _ _ h0, if_neg (show ¬ M 524 (8 * n + k) = _ by omega), Int.add_zero]
           exact (hy c).2)
        | (have t1 : x = M 524 (8 * n + k) := by omega
           have t : zFwk (fun w => M 524 (8 * n + w)) k ≠ -1 := fun c => by have := hx c; omega
           have t2 := hy t
           rw [if_neg (fun c => by omega)] at e
           refine e _ _ (by omega) (by omega) (by omega) (fun c => absurd c t) (fun c => ⟨by omega, ?_⟩)
           rw [zCnt_s _ _ h0, if_pos (show M 524 (8 * n + k) = _ by omega), t2.2])
        | (have t1 : M 524 (8 * n + k) < x := by omega
           have t3 : zFwk (fun w => M 524 (8 * n + w)) k = -1 ∨ M 524 (8 * n + k) < zFwk (fun w => M 524 (8 * n + w)) k := by
             by_cases c : zFwk (fun w => M 524 (8 * n + w)) k = -1
             · exact Or.inl c
             · have := hy c; exact Or.inr (by omega)
           rw [if_pos ⟨by omega, t3⟩] at e
           refine e _ _ (by omega) (by omega) (by omega) (fun c => by omega) (fun c => ⟨rfl, ?_⟩)
           have z9 : zCnt (fun w => M 524 (8 * n + w)) (M 524 (8 * n + k)) k = 0 := by
             unfold zCnt
             rw [zU_congr (g := fun _ => 0) h0 (fun j j0 j1 => by
               refine if_neg (fun c9 => ?_)
               rcases hcs with ⟨_, q⟩ | ⟨_, _, q⟩
               · have q9 : M 524 (8 * n + j) = -1 := q j j0 j1
                 have c8 : M 524 (8 * n + j) = M 524 (8 * n + k) := c9
                 omega
               · have q9 : M 524 (8 * n + j) ≠ -1 → zFwk (fun w => M 524 (8 * n + w)) k ≤ M 524 (8 * n + j) := q j j0 j1
                 have c8 : M 524 (8 * n + j) = M 524 (8 * n + k) := c9
                 omega)]
             have := zU_le (f := fun _ => 0) (n := k) (lo := 0) (hi := 0) h0 (fun _ _ _ => by omega)
             omega
           rw [zCnt_s _ _ h0, z9, if_pos rfl]
           rfl)
      · refine zp_al0 (q := 29) dX12_falls_28 rfl ?_
        refine zf_getG (v := 524) 14 (k517) (H.2.2.2.2.2.2.1) rfl fdX12_36 (q := 32) dX12_falls_29 rfl rfl ?_
        refine zp_il1 (q := 33) dX12_falls_32 rfl ?_
        refine zp_il4 (q := 35) dX12_falls_33 rfl ?_
        refine zr_iadd (q := 36) dX12_falls_35 rfl (fun hA hB => by unfold z_in at hA hB ⊢; omega) ?_
        refine zf_iald (v := _) (by first | assumption | exact k518 | exact k519 | exact k520 | exact k521 | exact k522 | exact k523 | exact k524 | exact k525 | exact k526 | exact k527 | exact k528 | exact k510 | exact k512 | exact k515 | exact k516 | exact k507 | exact k509 | exact k135 | exact k489 | exact k529 | exact k530) (rfl) (q := 37) dX12_falls_36 rfl (by omega) (by omega) ?_
        refine zp_il2 (q := 38) dX12_falls_37 rfl ?_
        refine zr_icmp_le (q := 44) (q2 := 41) dX12_falls_38 (by decide) rfl (fun h38 => ?_) (fun h38 => ?_)
        · refine zp_al0 (q := 45) dX12_falls_44 rfl ?_
          refine zf_getG (v := 524) 14 (k517) (H.2.2.2.2.2.2.1) rfl fdX12_36 (q := 48) dX12_falls_45 rfl rfl ?_
          refine zp_il1 (q := 49) dX12_falls_48 rfl ?_
          refine zp_il4 (q := 51) dX12_falls_49 rfl ?_
          refine zr_iadd (q := 52) dX12_falls_51 rfl (fun hA hB => by unfold z_in at hA hB ⊢; omega) ?_
          refine zf_iald (v := _) (by first | assumption | exact k518 | exact k519 | exact k520 | exact k521 | exact k522 | exact k523 | exact k524 | exact k525 | exact k526 | exact k527 | exact k528 | exact k510 | exact k512 | exact k515 | exact k516 | exact k507 | exact k509 | exact k135 | exact k489 | exact k529 | exact k530) (rfl) (q := 53) dX12_falls_52 rfl (by omega) (by omega) ?_
          refine zp_il2 (q := 54) dX12_falls_53 rfl ?_
          refine zr_icmp_ne (q := 63) (q2 := 57) dX12_falls_54 (by decide) rfl (fun h54 => ?_) (fun h54 => ?_)
          · refine zr_iconst (q := 64) dX12_falls_63 rfl (z_in_of rfl) ?_
            refine zp_is3 (q := 65) dX12_falls_64 rfl rfl rfl ?_
            refine zp_al0 (q := 66) dX12_falls_65 rfl ?_
            refine zf_getG (v := 524) 14 (k517) (H.2.2.2.2.2.2.1) rfl fdX12_36 (q := 69) dX12_falls_66 rfl rfl ?_
            refine zp_il1 (q := 70) dX12_falls_69 rfl ?_
            refine zp_il4 (q := 72) dX12_falls_70 rfl ?_
            refine zr_iadd (q := 73) dX12_falls_72 rfl (fun hA hB => by unfold z_in at hA hB ⊢; omega) ?_
            refine zf_iald (v := _) (by first | assumption | exact k518 | exact k519 | exact k520 | exact k521 | exact k522 | exact k523 | exact k524 | exact k525 | exact k526 | exact k527 | exact k528 | exact k510 | exact k512 | exact k515 | exact k516 | exact k507 | exact k509 | exact k135 | exact k489 | exact k529 | exact k530) (rfl) (q := 74) dX12_falls_73 rfl (by omega) (by omega) ?_
            refine zp_is2 (q := 75) dX12_falls_74 rfl rfl rfl ?_
            refine zp_inc4 (q := 78) dX12_falls_75 rfl rfl rfl (fun hA => by unfold z_in at hA ⊢; omega) ?_
            refine zr_goto (q := 9) dX12_falls_78 (by decide) ?_
            first
            | (have t : M 524 (8 * n + k) = -1 := by omega
               rw [if_neg (fun c => c.1 t)] at e
               refine e x y (by omega) (by omega) (by omega) hx (fun c => ⟨(hy c).1, ?_⟩)
               rw [zCnt_s _ _ h0, if_neg (show ¬ M 524 (8 * n + k) = _ by omega), Int.add_zero]
               exact (hy c).2)
            | (have t1 : x < M 524 (8 * n + k) := by omega
               have t : zFwk (fun w => M 524 (8 * n + w)) k ≠ -1 := fun c => by have := hx c; omega
               have t2 := hy t
               rw [if_neg (fun c => by omega)] at e
               refine e x y (by omega) (by omega) (by omega) hx (fun c => ⟨(hy c).1, ?_⟩)
               rw [zCnt_s _ _ h0, if_neg (show ¬ M 524 (8 * n + k) = _ by omega), Int.add_zero]
               exact (hy c).2)
            | (have t1 : x = M 524 (8 * n + k) := by omega
               have t : zFwk (fun w => M 524 (8 * n + w)) k ≠ -1 := fun c => by have := hx c; omega
               have t2 := hy t
               rw [if_neg (fun c => by omega)] at e
               refine e _ _ (by omega) (by omega) (by omega) (fun c => absurd c t) (fun c => ⟨by omega, ?_⟩)
               rw [zCnt_s _ _ h0, if_pos (show M 524 (8 * n + k) = _ by omega), t2.2])
            | (have t1 : M 524 (8 * n + k) < x := by omega
               have t3 : zFwk (fun w => M 524 (8 * n + w)) k = -1 ∨ M 524 (8 * n + k) < zFwk (fun w => M 524 (8 * n + w)) k := by
                 by_cases c : zFwk (fun w => M 524 (8 * n + w)) k = -1
                 · exact Or.inl c
                 · have := hy c; exact Or.inr (by omega)
               rw [if_pos ⟨by omega, t3⟩] at e
               refine e _ _ (by omega) (by omega) (by omega) (fun c => by omega) (fun c => ⟨rfl, ?_⟩)
               have z9 : zCnt (fun w => M 524 (8 * n + w)) (M 524 (8 * n + k)) k = 0 := by
                 unfold zCnt
                 rw [zU_congr (g := fun _ => 0) h0 (fun j j0 j1 => by
                   refine if_neg (fun c9 => ?_)
                   rcases hcs with ⟨_, q⟩ | ⟨_, _, q⟩
                   · have q9 : M 524 (8 * n + j) = -1 := q j j0 j1
                     have c8 : M 524 (8 * n + j) = M 524 (8 * n + k) := c9
                     omega
                   · have q9 : M 524 (8 * n + j) ≠ -1 → zFwk (fun w => M 524 (8 * n + w)) k ≤ M 524 (8 * n + j) := q j j0 j1
                     have c8 : M 524 (8 * n + j) = M 524 (8 * n + k) := c9
                     omega)]
                 have := zU_le (f := fun _ => 0) (n := k) (lo := 0) (hi := 0) h0 (fun _ _ _ => by omega)
                 omega
               rw [zCnt_s _ _ h0, z9, if_pos rfl]
               rfl)
          · refine zp_il3 (q := 58) dX12_falls_57 rfl ?_
            refine zr_iconst (q := 59) dX12_falls_58 rfl (z_in_of rfl) ?_
            refine zr_iadd (q := 60) dX12_falls_59 rfl (fun hA hB => by unfold z_in at hA hB ⊢; omega) ?_
            refine zr_goto (q := 64) dX12_falls_60 (by decide) ?_
            refine zp_is3 (q := 65) dX12_falls_64 rfl rfl rfl ?_
            refine zp_al0 (q := 66) dX12_falls_65 rfl ?_
            refine zf_getG (v := 524) 14 (k517) (H.2.2.2.2.2.2.1) rfl fdX12_36 (q := 69) dX12_falls_66 rfl rfl ?_
            refine zp_il1 (q := 70) dX12_falls_69 rfl ?_
            refine zp_il4 (q := 72) dX12_falls_70 rfl ?_
            refine zr_iadd (q := 73) dX12_falls_72 rfl (fun hA hB => by unfold z_in at hA hB ⊢; omega) ?_
            refine zf_iald (v := _) (by first | assumption | exact k518 | exact k519 | exact k520 | exact k521 | exact k522 | exact k523 | exact k524 | exact k525 | exact k526 | exact k527 | exact k528 | exact k510 | exact k512 | exact k515 | exact k516 | exact k507 | exact k509 | exact k135 | exact k489 | exact k529 | exact k530) (rfl) (q := 74) dX12_falls_73 rfl (by omega) (by omega) ?_
            refine zp_is2 (q := 75) dX12_falls_74 rfl rfl rfl ?_
            refine zp_inc4 (q := 78) dX12_falls_75 rfl rfl rfl (fun hA => by unfold z_in at hA ⊢; omega) ?_
            refine zr_goto (q := 9) dX12_falls_78 (by decide) ?_
            first
            | (have t : M 524 (8 * n + k) = -1 := by omega
               rw [if_neg (fun c => c.1 t)] at e
               refine e x y (by omega) (by omega) (by omega) hx (fun c => ⟨(hy c).1, ?_⟩)
               rw [zCnt_s _ _ h0, if_neg (show ¬ M 524 (8 * n + k) = _ by omega), Int.add_zero]
               exact (hy c).2)
            | (have t1 : x < M 524 (8 * n + k) := by omega
               have t : zFwk (fun w => M 524 (8 * n + w)) k ≠ -1 := fun c => by have := hx c; omega
               have t2 := hy t
               rw [if_neg (fun c => by omega)] at e
               refine e x y (by omega) (by omega) (by omega) hx (fun c => ⟨(hy c).1, ?_⟩)
               rw [zCnt_s _ _ h0, if_neg (show ¬ M 524 (8 * n + k) = _ by omega), Int.add_zero]
               exact (hy c).2)
            | (have t1 : x = M 524 (8 * n + k) := by omega
               have t : zFwk (fun w => M 524 (8 * n + w)) k ≠ -1 := fun c => by have := hx c; omega
               have t2 := hy t
               rw [if_neg (fun c => by omega)] at e
               refine e _ _ (by omega) (by omega) (by omega) (fun c => absurd c t) (fun c => ⟨by omega, ?_⟩)
               rw [zCnt_s _ _ h0, if_pos (show M 524 (8 * n + k) = _ by omega), t2.2])
            | (have t1 : M 524 (8 * n + k) < x := by omega
               have t3 : zFwk (fun w => M 524 (8 * n + w)) k = -1 ∨ M 524 (8 * n + k) < zFwk (fun w => M 524 (8 * n + w)) k := by
                 by_cases c : zFwk (fun w => M 524 (8 * n + w)) k = -1
                 · exact Or.inl c
                 · have := hy c; exact Or.inr (by omega)
               rw [if_pos ⟨by omega, t3⟩] at e
               refine e _ _ (by omega) (by omega) (by omega) (fun c => by omega) (fun c => ⟨rfl, ?_⟩)
               have z9 : zCnt (fun w => M 524 (8 * n + w)) (M 524 (8 * n + k)) k = 0 := by
                 unfold zCnt
                 rw [zU_congr (g := fun _ => 0) h0 (fun j j0 j1 => by
                   refine if_neg (fun c9 => ?_)
                   rcases hcs with ⟨_, q⟩ | ⟨_, _, q⟩
                   · have q9 : M 524 (8 * n + j) = -1 := q j j0 j1
                     have c8 : M 524 (8 * n + j) = M 524 (8 * n + k) := c9
                     omega
                   · have q9 : M 524 (8 * n + j) ≠ -1 → zFwk (fun w => M 524 (8 * n + w)) k ≤ M 524 (8 * n + j) := q j j0 j1
                     have c8 : M 524 (8 * n + j) = M 524 (8 * n + k) := c9
                     omega)]
                 have := zU_le (f := fun _ => 0) (n := k) (lo := 0) (hi := 0) h0 (fun _ _ _ => by omega)
                 omega
               rw [zCnt_s _ _ h0, z9, if_pos rfl]
               rfl)
        · refine zr_goto (q := 75) dX12_falls_41 (by decide) ?_
          refine zp_inc4 (q := 78) dX12_falls_75 rfl rfl rfl (fun hA => by unfold z_in at hA ⊢; omega) ?_
          refine zr_goto (q := 9) dX12_falls_78 (by decide) ?_
          first
          | (have t : M 524 (8 * n + k) = -1 := by omega
             rw [if_neg (fun c => c.1 t)] at e
             refine e x y (by omega) (by omega) (by omega) hx (fun c => ⟨(hy c).1, ?_⟩)
             rw [zCnt_s _ _ h0, if_neg (show ¬ M 524 (8 * n + k) = _ by omega), Int.add_zero]
             exact (hy c).2)
          | (have t1 : x < M 524 (8 * n + k) := by omega
             have t : zFwk (fun w => M 524 (8 * n + w)) k ≠ -1 := fun c => by have := hx c; omega
             have t2 := hy t
             rw [if_neg (fun c => by omega)] at e
             refine e x y (by omega) (by omega) (by omega) hx (fun c => ⟨(hy c).1, ?_⟩)
             rw [zCnt_s _ _ h0, if_neg (show ¬ M 524 (8 * n + k) = _ by omega), Int.add_zero]
             exact (hy c).2)
          | (have t1 : x = M 524 (8 * n + k) := by omega
             have t : zFwk (fun w => M 524 (8 * n + w)) k ≠ -1 := fun c => by have := hx c; omega
             have t2 := hy t
             rw [if_neg (fun c => by omega)] at e
             refine e _ _ (by omega) (by omega) (by omega) (fun c => absurd c t) (fun c => ⟨by omega, ?_⟩)
             rw [zCnt_s _ _ h0, if_pos (show M 524 (8 * n + k) = _ by omega), t2.2])
          | (have t1 : M 524 (8 * n + k) < x := by omega
             have t3 : zFwk (fun w => M 524 (8 * n + w)) k = -1 ∨ M 524 (8 * n + k) < zFwk (fun w => M 524 (8 * n + w)) k := by
               by_cases c : zFwk (fun w => M 524 (8 * n + w)) k = -1
               · exact Or.inl c
               · have := hy c; exact Or.inr (by omega)
             rw [if_pos ⟨by omega, t3⟩] at e
             refine e _ _ (by omega) (by omega) (by omega) (fun c => by omega) (fun c => ⟨rfl, ?_⟩)
             have z9 : zCnt (fun w => M 524 (8 * n + w)) (M 524 (8 * n + k)) k = 0 := by
               unfold zCnt
               rw [zU_congr (g := fun _ => 0) h0 (fun j j0 j1 => by
                 refine if_neg (fun c9 => ?_)
                 rcases hcs with ⟨_, q⟩ | ⟨_, _, q⟩
                 · have q9 : M 524 (8 * n + j) = -1 := q j j0 j1
                   have c8 : M 524 (8 * n + j) = M 524 (8 * n + k) := c9
                   omega
                 · have q9 : M 524 (8 * n + j) ≠ -1 → zFwk (fun w => M 524 (8 * n + w)) k ≤ M 524 (8 * n + j) := q j j0 j1
                   have c8 : M 524 (8 * n + j) = M 524 (8 * n + k) := c9
                   omega)]
               have := zU_le (f := fun _ => 0) (n := k) (lo := 0) (hi := 0) h0 (fun _ _ _ => by omega)
               omega
             rw [zCnt_s _ _ h0, z9, if_pos rfl]
             rfl)
theorem s_X12_falls (H : zHm M) (hn : 0 ≤ n ∧ n < 8) (h18 : M 517 18 = n) (hs : 0 ≤ M 517 20 ∧ M 517 20 < 16) (hv : ∀ w, 0 ≤ w → w < 8 → -1 ≤ M 524 (8 * n + w) ∧ M 524 (8 * n + w) ≤ 1980) (he : ∃ w, 0 ≤ w ∧ w < 8 ∧ M 524 (8 * n + w) ≠ -1) :
    z_Call mX12_falls zF [(1, 517), (0, 8 * n)] M (fun r S' M' => r = (0, zNth (fun w => M 524 (8 * n + w)) (zFw (fun w => M 524 (8 * n + w))) (zIx (fun w => M 524 (8 * n + w)) (M 517 20))) ∧ S' = zF ∧ M' = zFl M n (fun w => M 524 (8 * n + w))) := by
  obtain ⟨w, w0, w1, w2⟩ := he
  refine z_enter (k := 4) rfl rfl rfl ?_
  refine zr_sipush (q := 3) dX12_falls_0 rfl (z_in_of rfl) (by decide +kernel) ?_
  refine zp_is2 (q := 4) dX12_falls_3 rfl rfl rfl ?_
  refine zr_iconst (q := 5) dX12_falls_4 rfl (z_in_of rfl) ?_
  refine zp_is3 (q := 6) dX12_falls_5 rfl rfl rfl ?_
  refine zr_iconst (q := 7) dX12_falls_6 rfl (z_in_of rfl) ?_
  refine zp_is4 (q := 9) dX12_falls_7 rfl rfl rfl ?_
  exact s_X12_falls_l H hn h18 hs hv w0 w1 w2 9 0 3000 0 (by omega) (by omega) (by omega) (fun _ => ⟨rfl, rfl⟩) (fun c => absurd rfl c)
end ZRD
