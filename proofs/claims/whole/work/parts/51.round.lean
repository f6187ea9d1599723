/-! dep: 50 -/
/-! ===== WindElection$Round ===== -/
section ZRO
variable {M : zM} {r : Int}
/-- votes that are votes -/
def zVb (f : Int → Int) : Prop := ∀ w, 0 ≤ w → w < 8 → -1 ≤ f w ∧ f w ≤ 1980
theorem s_X8_continues (hr : zRo r) (hp : M r 0 = r + 1) {w : Int} : z_Call mX8_continues zF [(1, r), (0, w)] M (zpF 0 (if 0 ≤ w ∧ w < 8 ∧ M (r + 1) w ≠ -1 then 1 else 0) M) := by
  have o0 := zRo_0 hr
  have o1 := zRo_1 hr
  refine z_enter (k := 0) rfl rfl rfl ?_
  refine zp_il1 (q := 1) dX8_continues_0 rfl ?_
  refine zr_if_lt (q := 24) (q2 := 4) dX8_continues_1 (by decide) rfl (fun h1 => ?_) (fun h1 => ?_)
  · refine zr_iconst (q := 25) dX8_continues_24 rfl (z_in_of rfl) ?_
    refine zr_ireturn dX8_continues_25 rfl (z_fit_z (by decide)) ?_
    exact ⟨by rw [if_neg (by omega)], rfl, rfl⟩
  · refine zp_il1 (q := 5) dX8_continues_4 rfl ?_
    refine zr_bipush (q := 7) dX8_continues_5 rfl (z_in_of rfl) (by decide +kernel) ?_
    refine zr_icmp_ge (q := 24) (q2 := 10) dX8_continues_7 (by decide) rfl (fun h7 => ?_) (fun h7 => ?_)
    · refine zr_iconst (q := 25) dX8_continues_24 rfl (z_in_of rfl) ?_
      refine zr_ireturn dX8_continues_25 rfl (z_fit_z (by decide)) ?_
      exact ⟨by rw [if_neg (by omega)], rfl, rfl⟩
    · refine zp_al0 (q := 11) dX8_continues_10 rfl ?_
      refine zf_getG (v := r + 1) 0 (by first | assumption | exact k508) (hp) rfl fdX8_9 (q := 14) dX8_continues_11 rfl rfl ?_
      refine zp_il1 (q := 15) dX8_continues_14 rfl ?_
      refine zf_iald (v := _) (by first | assumption | exact k518 | exact k519 | exact k520 | exact k521 | exact k522 | exact k523 | exact k524 | exact k525 | exact k526 | exact k527 | exact k528 | exact k510 | exact k512 | exact k515 | exact k516 | exact k507 | exact k509 | exact k135 | exact k489 | exact k529 | exact k530) (rfl) (q := 16) dX8_continues_15 rfl (by omega) (by omega) ?_
      refine zr_iconst (q := 17) dX8_continues_16 rfl (z_in_of rfl) ?_
      refine zr_icmp_eq (q := 24) (q2 := 20) dX8_continues_17 (by decide) rfl (fun h17 => ?_) (fun h17 => ?_)
      · refine zr_iconst (q := 25) dX8_continues_24 rfl (z_in_of rfl) ?_
        refine zr_ireturn dX8_continues_25 rfl (z_fit_z (by decide)) ?_
        exact ⟨by rw [if_neg (by omega)], rfl, rfl⟩
      · refine zr_iconst (q := 21) dX8_continues_20 rfl (z_in_of rfl) ?_
        refine zr_goto (q := 25) dX8_continues_21 (by decide) ?_
        refine zr_ireturn dX8_continues_25 rfl (z_fit_z (by decide)) ?_
        exact ⟨by rw [if_pos (by omega)], rfl, rfl⟩
theorem s_X8_votesOf (hr : zRo r) (hp : M r 0 = r + 1) {w : Int} (h0 : 0 ≤ w) (h1 : w < 8) : z_Call mX8_votesOf zF [(1, r), (0, w)] M (zpF 0 (if M (r + 1) w = -1 then 0 else M (r + 1) w) M) := by
  have o0 := zRo_0 hr
  have o1 := zRo_1 hr
  refine z_enter (k := 0) rfl rfl rfl ?_
  refine zp_al0 (q := 1) dX8_votesOf_0 rfl ?_
  refine zp_il1 (q := 2) dX8_votesOf_1 rfl ?_
  refine zf_callV1 (by first | assumption | exact k508) (s_X8_continues hr hp) mtX8_continues wiX8_continues weX8_continues wlX8_39 (q := 5) dX8_votesOf_2 rfl rfl rfl rfl rfl rfl rfl (fun r S9 M9 h8 hP => ?_) (fun k S9 M9 hP => (z_no hP.1 rfl).elim)
  obtain ⟨rfl, rfl, h9⟩ := hP
  subst M9
  refine zr_if_eq (q := 17) (q2 := 8) dX8_votesOf_5 (by decide) rfl (fun h5 => ?_) (fun h5 => ?_)
  · refine zr_iconst (q := 18) dX8_votesOf_17 rfl (z_in_of rfl) ?_
    refine zr_ireturn dX8_votesOf_18 rfl (z_fit_i _) ?_
    exact ⟨by first | rw [if_pos (by omega)] | rw [if_neg (by omega)], rfl, rfl⟩
  · refine zp_al0 (q := 9) dX8_votesOf_8 rfl ?_
    refine zf_getG (v := r + 1) 0 (by first | assumption | exact k508) (hp) rfl fdX8_9 (q := 12) dX8_votesOf_9 rfl rfl ?_
    refine zp_il1 (q := 13) dX8_votesOf_12 rfl ?_
    refine zf_iald (v := _) (by first | assumption | exact k518 | exact k519 | exact k520 | exact k521 | exact k522 | exact k523 | exact k524 | exact k525 | exact k526 | exact k527 | exact k528 | exact k510 | exact k512 | exact k515 | exact k516 | exact k507 | exact k509 | exact k135 | exact k489 | exact k529 | exact k530) (rfl) (q := 14) dX8_votesOf_13 rfl (by omega) (by omega) ?_
    refine zr_goto (q := 18) dX8_votesOf_14 (by decide) ?_
    refine zr_ireturn dX8_votesOf_18 rfl (z_fit_i _) ?_
    exact ⟨by first | rw [if_pos (by omega)] | rw [if_neg (by omega)], rfl, rfl⟩
theorem s_X8_sumOfVotes_l (hr : zRo r) (hp : M r 0 = r + 1) (hv : zVb (M (r + 1))) {bc bs : Nat} : ∀ (m : Nat) (k x : Int), 0 ≤ k → k ≤ 8 → 8 - k < m → 0 ≤ x → x ≤ 1980 * k → x = zU (fun w => if M (r + 1) w = -1 then 0 else M (r + 1) w) k →
    z_Ex mX8_sumOfVotes zF 4 [(1, r), (0, x), (0, k)] [] M bc bs (zpF 0 (zSm (M (r + 1))) M) := by
  have o0 := zRo_0 hr
  have o1 := zRo_1 hr
  intro m
  induction m with
  | zero => intro k x h0 h1 h2; omega
  | succ m ih =>
    intro k x h0 h1 h2 h3 h4 hx
    refine zp_il2 (q := 5) dX8_sumOfVotes_4 rfl ?_
    refine zr_bipush (q := 7) dX8_sumOfVotes_5 rfl (z_in_of rfl) (by decide +kernel) ?_
    refine zr_icmp_ge (q := 35) (q2 := 10) dX8_sumOfVotes_7 (by decide) rfl (fun h7 => ?_) (fun h7 => ?_)
    · refine zp_il1 (q := 36) dX8_sumOfVotes_35 rfl ?_
      refine zr_ireturn dX8_sumOfVotes_36 rfl (z_fit_i _) ?_
      exact ⟨by rw [hx, show k = 8 by omega]; rfl, rfl, rfl⟩
    · have hb := hv k h0 (by omega)
      refine zp_al0 (q := 11) dX8_sumOfVotes_10 rfl ?_
      refine zf_getG (v := r + 1) 0 (by first | assumption | exact k508) (hp) rfl fdX8_9 (q := 14) dX8_sumOfVotes_11 rfl rfl ?_
      refine zp_il2 (q := 15) dX8_sumOfVotes_14 rfl ?_
      refine zf_iald (v := _) (by first | assumption | exact k518 | exact k519 | exact k520 | exact k521 | exact k522 | exact k523 | exact k524 | exact k525 | exact k526 | exact k527 | exact k528 | exact k510 | exact k512 | exact k515 | exact k516 | exact k507 | exact k509 | exact k135 | exact k489 | exact k529 | exact k530) (rfl) (q := 16) dX8_sumOfVotes_15 rfl (by omega) (by omega) ?_
      refine zr_iconst (q := 17) dX8_sumOfVotes_16 rfl (z_in_of rfl) ?_
      refine zr_icmp_eq (q := 29) (q2 := 20) dX8_sumOfVotes_17 (by decide) rfl (fun h17 => ?_) (fun h17 => ?_)
      · refine zp_inc2 (q := 32) dX8_sumOfVotes_29 rfl rfl rfl (fun hA => by unfold z_in at hA ⊢; omega) ?_
        refine zr_goto (q := 4) dX8_sumOfVotes_32 (by decide) ?_
        exact ih (k + 1) _ (by omega) (by omega) (by omega) (by omega) (by omega) (by rw [zU_s _ (by omega), ← hx]; omega)
      · refine zp_il1 (q := 21) dX8_sumOfVotes_20 rfl ?_
        refine zp_al0 (q := 22) dX8_sumOfVotes_21 rfl ?_
        refine zf_getG (v := r + 1) 0 (by first | assumption | exact k508) (hp) rfl fdX8_9 (q := 25) dX8_sumOfVotes_22 rfl rfl ?_
        refine zp_il2 (q := 26) dX8_sumOfVotes_25 rfl ?_
        refine zf_iald (v := _) (by first | assumption | exact k518 | exact k519 | exact k520 | exact k521 | exact k522 | exact k523 | exact k524 | exact k525 | exact k526 | exact k527 | exact k528 | exact k510 | exact k512 | exact k515 | exact k516 | exact k507 | exact k509 | exact k135 | exact k489 | exact k529 | exact k530) (rfl) (q := 27) dX8_sumOfVotes_26 rfl (by omega) (by omega) ?_
        refine zr_iadd (q := 28) dX8_sumOfVotes_27 rfl (fun hA hB => by unfold z_in at hA hB ⊢; omega) ?_
        refine zp_is1 (q := 29) dX8_sumOfVotes_28 rfl rfl rfl ?_
        refine zp_inc2 (q := 32) dX8_sumOfVotes_29 rfl rfl rfl (fun hA => by unfold z_in at hA ⊢; omega) ?_
        refine zr_goto (q := 4) dX8_sumOfVotes_32 (by decide) ?_
        exact ih (k + 1) _ (by omega) (by omega) (by omega) (by omega) (by omega) (by rw [zU_s _ (by omega), ← hx]; omega)
theorem s_X8_sumOfVotes (hr : zRo r) (hp : M r 0 = r + 1) (hv : zVb (M (r + 1))) : z_Call mX8_sumOfVotes zF [(1, r)] M (zpF 0 (zSm (M (r + 1))) M) := by
  refine z_enter (k := 2) rfl rfl rfl ?_
  refine zr_iconst (q := 1) dX8_sumOfVotes_0 rfl (z_in_of rfl) ?_
  refine zp_is1 (q := 2) dX8_sumOfVotes_1 rfl rfl rfl ?_
  refine zr_iconst (q := 3) dX8_sumOfVotes_2 rfl (z_in_of rfl) ?_
  refine zp_is2 (q := 4) dX8_sumOfVotes_3 rfl rfl rfl ?_
  exact s_X8_sumOfVotes_l hr hp hv 9 0 0 (by omega) (by omega) (by omega) (by omega) (by omega) rfl
theorem s_X8_continuingWinds_l (hr : zRo r) (hp : M r 0 = r + 1) {bc bs : Nat} : ∀ (m : Nat) (k x : Int), 0 ≤ k → k ≤ 8 → 8 - k < m → 0 ≤ x → x ≤ k → x = zU (fun w => if M (r + 1) w = -1 then 0 else 1) k →
    z_Ex mX8_continuingWinds zF 4 [(1, r), (0, x), (0, k)] [] M bc bs (zpF 0 (zCn (M (r + 1))) M) := by
  have o0 := zRo_0 hr
  have o1 := zRo_1 hr
  intro m
  induction m with
  | zero => intro k x h0 h1 h2; omega
  | succ m ih =>
    intro k x h0 h1 h2 h3 h4 hx
    refine zp_il2 (q := 5) dX8_continuingWinds_4 rfl ?_
    refine zr_bipush (q := 7) dX8_continuingWinds_5 rfl (z_in_of rfl) (by decide +kernel) ?_
    refine zr_icmp_ge (q := 29) (q2 := 10) dX8_continuingWinds_7 (by decide) rfl (fun h7 => ?_) (fun h7 => ?_)
    · refine zp_il1 (q := 30) dX8_continuingWinds_29 rfl ?_
      refine zr_ireturn dX8_continuingWinds_30 rfl (z_fit_i _) ?_
      exact ⟨by rw [hx, show k = 8 by omega]; rfl, rfl, rfl⟩
    · refine zp_al0 (q := 11) dX8_continuingWinds_10 rfl ?_
      refine zf_getG (v := r + 1) 0 (by first | assumption | exact k508) (hp) rfl fdX8_9 (q := 14) dX8_continuingWinds_11 rfl rfl ?_
      refine zp_il2 (q := 15) dX8_continuingWinds_14 rfl ?_
      refine zf_iald (v := _) (by first | assumption | exact k518 | exact k519 | exact k520 | exact k521 | exact k522 | exact k523 | exact k524 | exact k525 | exact k526 | exact k527 | exact k528 | exact k510 | exact k512 | exact k515 | exact k516 | exact k507 | exact k509 | exact k135 | exact k489 | exact k529 | exact k530) (rfl) (q := 16) dX8_continuingWinds_15 rfl (by omega) (by omega) ?_
      refine zr_iconst (q := 17) dX8_continuingWinds_16 rfl (z_in_of rfl) ?_
      refine zr_icmp_eq (q := 23) (q2 := 20) dX8_continuingWinds_17 (by decide) rfl (fun h17 => ?_) (fun h17 => ?_)
      · refine zp_inc2 (q := 26) dX8_continuingWinds_23 rfl rfl rfl (fun hA => by unfold z_in at hA ⊢; omega) ?_
        refine zr_goto (q := 4) dX8_continuingWinds_26 (by decide) ?_
        exact ih (k + 1) _ (by omega) (by omega) (by omega) (by omega) (by omega) (by rw [zU_s _ (by omega), ← hx]; omega)
      · refine zp_inc1 (q := 23) dX8_continuingWinds_20 rfl rfl rfl (fun hA => by unfold z_in at hA ⊢; omega) ?_
        refine zp_inc2 (q := 26) dX8_continuingWinds_23 rfl rfl rfl (fun hA => by unfold z_in at hA ⊢; omega) ?_
        refine zr_goto (q := 4) dX8_continuingWinds_26 (by decide) ?_
        exact ih (k + 1) _ (by omega) (by omega) (by omega) (by omega) (by omega) (by rw [zU_s _ (by omega), ← hx]; omega)
theorem s_X8_continuingWinds (hr : zRo r) (hp : M r 0 = r + 1) : z_Call mX8_continuingWinds zF [(1, r)] M (zpF 0 (zCn (M (r + 1))) M) := by
  refine z_enter (k := 2) rfl rfl rfl ?_
  refine zr_iconst (q := 1) dX8_continuingWinds_0 rfl (z_in_of rfl) ?_
  refine zp_is1 (q := 2) dX8_continuingWinds_1 rfl rfl rfl ?_
  refine zr_iconst (q := 3) dX8_continuingWinds_2 rfl (z_in_of rfl) ?_
  refine zp_is2 (q := 4) dX8_continuingWinds_3 rfl rfl rfl ?_
  exact s_X8_continuingWinds_l hr hp 9 0 0 (by omega) (by omega) (by omega) (by omega) (by omega) rfl
theorem s_X8_windThatWins_l (hr : zRo r) (hp : M r 0 = r + 1) (hv : zVb (M (r + 1))) {bc bs : Nat} : ∀ (m : Nat) (k : Int), 0 ≤ k → k ≤ 8 → 8 - k < m → (∀ j, 0 ≤ j → j < k → ¬ (M (r + 1) j ≠ -1 ∧ (zCn (M (r + 1)) = 1 ∨ zSm (M (r + 1)) < 2 * M (r + 1) j))) →
    z_Ex mX8_windThatWins zF 2 [(1, r), (0, zSm (M (r + 1))), (0, zCn (M (r + 1))), (0, k)] [] M bc bs (zpF 0 (zWn (M (r + 1))) M) := by
  have o0 := zRo_0 hr
  have o1 := zRo_1 hr
  intro m
  induction m with
  | zero => intro k h0 h1 h2; omega
  | succ m ih =>
    intro k h0 h1 h2 hx
    refine zp_il3 (q := 3) dX8_windThatWins_2 rfl ?_
    refine zr_bipush (q := 5) dX8_windThatWins_3 rfl (z_in_of rfl) (by decide +kernel) ?_
    refine zr_icmp_ge (q := 43) (q2 := 8) dX8_windThatWins_5 (by decide) rfl (fun h5 => ?_) (fun h5 => ?_)
    · refine zr_iconst (q := 44) dX8_windThatWins_43 rfl (z_in_of rfl) ?_
      refine zr_ireturn dX8_windThatWins_44 rfl (z_fit_i _) ?_
      exact ⟨by unfold zWn; rw [zFs_no (fun j a1 a2 => decide_eq_false (hx j a1 (by omega)))], rfl, rfl⟩
    · have hb := hv k h0 (by omega)
      refine zp_al0 (q := 9) dX8_windThatWins_8 rfl ?_
      refine zf_getG (v := r + 1) 0 (by first | assumption | exact k508) (hp) rfl fdX8_9 (q := 12) dX8_windThatWins_9 rfl rfl ?_
      refine zp_il3 (q := 13) dX8_windThatWins_12 rfl ?_
      refine zf_iald (v := _) (by first | assumption | exact k518 | exact k519 | exact k520 | exact k521 | exact k522 | exact k523 | exact k524 | exact k525 | exact k526 | exact k527 | exact k528 | exact k510 | exact k512 | exact k515 | exact k516 | exact k507 | exact k509 | exact k135 | exact k489 | exact k529 | exact k530) (rfl) (q := 14) dX8_windThatWins_13 rfl (by omega) (by omega) ?_
      refine zr_iconst (q := 15) dX8_windThatWins_14 rfl (z_in_of rfl) ?_
      refine zr_icmp_eq (q := 37) (q2 := 18) dX8_windThatWins_15 (by decide) rfl (fun h15 => ?_) (fun h15 => ?_)
      · refine zp_inc3 (q := 40) dX8_windThatWins_37 rfl rfl rfl (fun hA => by unfold z_in at hA ⊢; omega) ?_
        refine zr_goto (q := 2) dX8_windThatWins_40 (by decide) ?_
        exact ih (k + 1) (by omega) (by omega) (by omega) (fun j a1 a2 => by
          by_cases e : j = k
          · rw [e]; omega
          · exact hx j a1 (by omega))
      · refine zp_il2 (q := 19) dX8_windThatWins_18 rfl ?_
        refine zr_iconst (q := 20) dX8_windThatWins_19 rfl (z_in_of rfl) ?_
        refine zr_icmp_eq (q := 35) (q2 := 23) dX8_windThatWins_20 (by decide) rfl (fun h20 => ?_) (fun h20 => ?_)
        · refine zp_il3 (q := 36) dX8_windThatWins_35 rfl ?_
          refine zr_ireturn dX8_windThatWins_36 rfl (z_fit_i _) ?_
          exact ⟨by unfold zWn; rw [zFs_yes h0 (by omega) (decide_eq_true (by omega)) (fun j a1 a2 => decide_eq_false (hx j a1 a2))], rfl, rfl⟩
        · refine zr_iconst (q := 24) dX8_windThatWins_23 rfl (z_in_of rfl) ?_
          refine zp_al0 (q := 25) dX8_windThatWins_24 rfl ?_
          refine zf_getG (v := r + 1) 0 (by first | assumption | exact k508) (hp) rfl fdX8_9 (q := 28) dX8_windThatWins_25 rfl rfl ?_
          refine zp_il3 (q := 29) dX8_windThatWins_28 rfl ?_
          refine zf_iald (v := _) (by first | assumption | exact k518 | exact k519 | exact k520 | exact k521 | exact k522 | exact k523 | exact k524 | exact k525 | exact k526 | exact k527 | exact k528 | exact k510 | exact k512 | exact k515 | exact k516 | exact k507 | exact k509 | exact k135 | exact k489 | exact k529 | exact k530) (rfl) (q := 30) dX8_windThatWins_29 rfl (by omega) (by omega) ?_
          refine zr_imul (q := 31) dX8_windThatWins_30 rfl (fun hA hB => by unfold z_in at hA hB ⊢; omega) ?_
          refine zp_il1 (q := 32) dX8_windThatWins_31 rfl ?_
          refine zr_icmp_le (q := 37) (q2 := 35) dX8_windThatWins_32 (by decide) rfl (fun h32 => ?_) (fun h32 => ?_)
          · refine zp_inc3 (q := 40) dX8_windThatWins_37 rfl rfl rfl (fun hA => by unfold z_in at hA ⊢; omega) ?_
            refine zr_goto (q := 2) dX8_windThatWins_40 (by decide) ?_
            exact ih (k + 1) (by omega) (by omega) (by omega) (fun j a1 a2 => by
              by_cases e : j = k
              · rw [e]; omega
              · exact hx j a1 (by omega))
          · refine zp_il3 (q := 36) dX8_windThatWins_35 rfl ?_
            refine zr_ireturn dX8_windThatWins_36 rfl (z_fit_i _) ?_
            exact ⟨by unfold zWn; rw [zFs_yes h0 (by omega) (decide_eq_true (by omega)) (fun j a1 a2 => decide_eq_false (hx j a1 a2))], rfl, rfl⟩
theorem s_X8_windThatWins (hr : zRo r) (hp : M r 0 = r + 1) (hv : zVb (M (r + 1))) : z_Call mX8_windThatWins zF [(1, r), (0, zSm (M (r + 1))), (0, zCn (M (r + 1)))] M (zpF 0 (zWn (M (r + 1))) M) := by
  refine z_enter (k := 1) rfl rfl rfl ?_
  refine zr_iconst (q := 1) dX8_windThatWins_0 rfl (z_in_of rfl) ?_
  refine zp_is3 (q := 2) dX8_windThatWins_1 rfl rfl rfl ?_
  exact s_X8_windThatWins_l hr hp hv 9 0 (by omega) (by omega) (by omega) (fun j a1 a2 => by omega)
theorem s_X8_fewestVotes_l (hr : zRo r) (hp : M r 0 = r + 1) {bc bs : Nat} : ∀ (m : Nat) (k : Int), 0 ≤ k → k ≤ 8 → 8 - k < m →
    z_Ex mX8_fewestVotes zF 4 [(1, r), (0, zFwk (M (r + 1)) k), (0, k)] [] M bc bs (zpF 0 (zFw (M (r + 1))) M) := by
  have o0 := zRo_0 hr
  have o1 := zRo_1 hr
  intro m
  induction m with
  | zero => intro k h0 h1 h2; omega
  | succ m ih =>
    intro k h0 h1 h2
    have e := ih (k + 1) (by omega)
    rw [zFwk_s _ h0] at e
    refine zp_il2 (q := 5) dX8_fewestVotes_4 rfl ?_
    refine zr_bipush (q := 7) dX8_fewestVotes_5 rfl (z_in_of rfl) (by decide +kernel) ?_
    refine zr_icmp_ge (q := 48) (q2 := 10) dX8_fewestVotes_7 (by decide) rfl (fun h7 => ?_) (fun h7 => ?_)
    · refine zp_il1 (q := 49) dX8_fewestVotes_48 rfl ?_
      refine zr_ireturn dX8_fewestVotes_49 rfl (z_fit_i _) ?_
      exact ⟨by rw [show k = 8 by omega]; rfl, rfl, rfl⟩
    · refine zp_al0 (q := 11) dX8_fewestVotes_10 rfl ?_
      refine zf_getG (v := r + 1) 0 (by first | assumption | exact k508) (hp) rfl fdX8_9 (q := 14) dX8_fewestVotes_11 rfl rfl ?_
      refine zp_il2 (q := 15) dX8_fewestVotes_14 rfl ?_
      refine zf_iald (v := _) (by first | assumption | exact k518 | exact k519 | exact k520 | exact k521 | exact k522 | exact k523 | exact k524 | exact k525 | exact k526 | exact k527 | exact k528 | exact k510 | exact k512 | exact k515 | exact k516 | exact k507 | exact k509 | exact k135 | exact k489 | exact k529 | exact k530) (rfl) (q := 16) dX8_fewestVotes_15 rfl (by omega) (by omega) ?_
      refine zr_iconst (q := 17) dX8_fewestVotes_16 rfl (z_in_of rfl) ?_
      refine zr_icmp_eq (q := 42) (q2 := 20) dX8_fewestVotes_17 (by decide) rfl (fun h17 => ?_) (fun h17 => ?_)
      · refine zp_inc2 (q := 45) dX8_fewestVotes_42 rfl rfl rfl (fun hA => by unfold z_in at hA ⊢; omega) ?_
        refine zr_goto (q := 4) dX8_fewestVotes_45 (by decide) ?_
        first | (rw [if_pos (by omega)] at e; exact e (by omega) (by omega)) | (rw [if_neg (by omega)] at e; exact e (by omega) (by omega))
      · refine zp_il1 (q := 21) dX8_fewestVotes_20 rfl ?_
        refine zr_iconst (q := 22) dX8_fewestVotes_21 rfl (z_in_of rfl) ?_
        refine zr_icmp_eq (q := 35) (q2 := 25) dX8_fewestVotes_22 (by decide) rfl (fun h22 => ?_) (fun h22 => ?_)
        · refine zp_al0 (q := 36) dX8_fewestVotes_35 rfl ?_
          refine zf_getG (v := r + 1) 0 (by first | assumption | exact k508) (hp) rfl fdX8_9 (q := 39) dX8_fewestVotes_36 rfl rfl ?_
          refine zp_il2 (q := 40) dX8_fewestVotes_39 rfl ?_
          refine zf_iald (v := _) (by first | assumption | exact k518 | exact k519 | exact k520 | exact k521 | exact k522 | exact k523 | exact k524 | exact k525 | exact k526 | exact k527 | exact k528 | exact k510 | exact k512 | exact k515 | exact k516 | exact k507 | exact k509 | exact k135 | exact k489 | exact k529 | exact k530) (rfl) (q := 41) dX8_fewestVotes_40 rfl (by omega) (by omega) ?_
          refine zp_is1 (q := 42) dX8_fewestVotes_41 rfl rfl rfl ?_
          refine zp_inc2 (q := 45) dX8_fewestVotes_42 rfl rfl rfl (fun hA => by unfold z_in at hA ⊢; omega) ?_
          refine zr_goto (q := 4) dX8_fewestVotes_45 (by decide) ?_
          first | (rw [if_pos (by omega)] at e; exact e (by omega) (by omega)) | (rw [if_neg (by omega)] at e; exact e (by omega) (by omega))
        · refine zp_al0 (q := 26) dX8_fewestVotes_25 rfl ?_
          refine zf_getG (v := r + 1) 0 (by first | assumption | exact k508) (hp) rfl fdX8_9 (q := 29) dX8_fewestVotes_26 rfl rfl ?_
          refine zp_il2 (q := 30) dX8_fewestVotes_29 rfl ?_
          refine zf_iald (v := _) (by first | assumption | exact k518 | exact k519 | exact k520 | exact k521 | exact k522 | exact k523 | exact k524 | exact k525 | exact k526 | exact k527 | exact k528 | exact k510 | exact k512 | exact k515 | exact k516 | exact k507 | exact k509 | exact k135 | exact k489 | exact k529 | exact k530) (rfl) (q := 31) dX8_fewestVotes_30 rfl (by omega) (by omega) ?_
          refine zp_il1 (q := 32) dX8_fewestVotes_31 rfl ?_
          refine zr_icmp_ge (q := 42) (q2 := 35) dX8_fewestVotes_32 (by decide) rfl (fun h32 => ?_) (fun h32 => ?_)
          · refine zp_inc2 (q := 45) dX8_fewestVotes_42 rfl rfl rfl (fun hA => by unfold z_in at hA ⊢; omega) ?_
            refine zr_goto (q := 4) dX8_fewestVotes_45 (by decide) ?_
            first | (rw [if_pos (by omega)] at e; exact e (by omega) (by omega)) | (rw [if_neg (by omega)] at e; exact e (by omega) (by omega))
          · refine zp_al0 (q := 36) dX8_fewestVotes_35 rfl ?_
            refine zf_getG (v := r + 1) 0 (by first | assumption | exact k508) (hp) rfl fdX8_9 (q := 39) dX8_fewestVotes_36 rfl rfl ?_
            refine zp_il2 (q := 40) dX8_fewestVotes_39 rfl ?_
            refine zf_iald (v := _) (by first | assumption | exact k518 | exact k519 | exact k520 | exact k521 | exact k522 | exact k523 | exact k524 | exact k525 | exact k526 | exact k527 | exact k528 | exact k510 | exact k512 | exact k515 | exact k516 | exact k507 | exact k509 | exact k135 | exact k489 | exact k529 | exact k530) (rfl) (q := 41) dX8_fewestVotes_40 rfl (by omega) (by omega) ?_
            refine zp_is1 (q := 42) dX8_fewestVotes_41 rfl rfl rfl ?_
            refine zp_inc2 (q := 45) dX8_fewestVotes_42 rfl rfl rfl (fun hA => by unfold z_in at hA ⊢; omega) ?_
            refine zr_goto (q := 4) dX8_fewestVotes_45 (by decide) ?_
            first | (rw [if_pos (by omega)] at e; exact e (by omega) (by omega)) | (rw [if_neg (by omega)] at e; exact e (by omega) (by omega))
theorem s_X8_fewestVotes (hr : zRo r) (hp : M r 0 = r + 1) : z_Call mX8_fewestVotes zF [(1, r)] M (zpF 0 (zFw (M (r + 1))) M) := by
  refine z_enter (k := 2) rfl rfl rfl ?_
  refine zr_iconst (q := 1) dX8_fewestVotes_0 rfl (z_in_of rfl) ?_
  refine zp_is1 (q := 2) dX8_fewestVotes_1 rfl rfl rfl ?_
  refine zr_iconst (q := 3) dX8_fewestVotes_2 rfl (z_in_of rfl) ?_
  refine zp_is2 (q := 4) dX8_fewestVotes_3 rfl rfl rfl ?_
  exact s_X8_fewestVotes_l hr hp 9 0 (by omega) (by omega) (by omega)
theorem s_X8_windsWith_l (hr : zRo r) (hp : M r 0 = r + 1) {v : Int} {bc bs : Nat} : ∀ (m : Nat) (k : Int), 0 ≤ k → k ≤ 8 → 8 - k < m →
    z_Ex mX8_windsWith zF 4 [(1, r), (0, v), (0, zCnt (M (r + 1)) v k), (0, k)] [] M bc bs (zpF 0 (zCnt (M (r + 1)) v 8) M) := by
  have o0 := zRo_0 hr
  have o1 := zRo_1 hr
  intro m
  induction m with
  | zero => intro k h0 h1 h2; omega
  | succ m ih =>
    intro k h0 h1 h2
    have hb := zCnt_range (M (r + 1)) v h0
    have e := ih (k + 1) (by omega)
    rw [zCnt_s _ _ h0] at e
    refine zp_il3 (q := 5) dX8_windsWith_4 rfl ?_
    refine zr_bipush (q := 7) dX8_windsWith_5 rfl (z_in_of rfl) (by decide +kernel) ?_
    refine zr_icmp_ge (q := 29) (q2 := 10) dX8_windsWith_7 (by decide) rfl (fun h7 => ?_) (fun h7 => ?_)
    · refine zp_il2 (q := 30) dX8_windsWith_29 rfl ?_
      refine zr_ireturn dX8_windsWith_30 rfl (z_fit_i _) ?_
      exact ⟨by rw [show k = 8 by omega], rfl, rfl⟩
    · refine zp_al0 (q := 11) dX8_windsWith_10 rfl ?_
      refine zf_getG (v := r + 1) 0 (by first | assumption | exact k508) (hp) rfl fdX8_9 (q := 14) dX8_windsWith_11 rfl rfl ?_
      refine zp_il3 (q := 15) dX8_windsWith_14 rfl ?_
      refine zf_iald (v := _) (by first | assumption | exact k518 | exact k519 | exact k520 | exact k521 | exact k522 | exact k523 | exact k524 | exact k525 | exact k526 | exact k527 | exact k528 | exact k510 | exact k512 | exact k515 | exact k516 | exact k507 | exact k509 | exact k135 | exact k489 | exact k529 | exact k530) (rfl) (q := 16) dX8_windsWith_15 rfl (by omega) (by omega) ?_
      refine zp_il1 (q := 17) dX8_windsWith_16 rfl ?_
      refine zr_icmp_ne (q := 23) (q2 := 20) dX8_windsWith_17 (by decide) rfl (fun h17 => ?_) (fun h17 => ?_)
      · refine zp_inc3 (q := 26) dX8_windsWith_23 rfl rfl rfl (fun hA => by unfold z_in at hA ⊢; omega) ?_
        refine zr_goto (q := 4) dX8_windsWith_26 (by decide) ?_
        first | (rw [if_pos (by omega)] at e; exact e (by omega) (by omega)) | (rw [if_neg (by omega), Int.add_zero] at e; exact e (by omega) (by omega))
      · refine zp_inc2 (q := 23) dX8_windsWith_20 rfl rfl rfl (fun hA => by unfold z_in at hA ⊢; omega) ?_
        refine zp_inc3 (q := 26) dX8_windsWith_23 rfl rfl rfl (fun hA => by unfold z_in at hA ⊢; omega) ?_
        refine zr_goto (q := 4) dX8_windsWith_26 (by decide) ?_
        first | (rw [if_pos (by omega)] at e; exact e (by omega) (by omega)) | (rw [if_neg (by omega), Int.add_zero] at e; exact e (by omega) (by omega))
theorem s_X8_windsWith (hr : zRo r) (hp : M r 0 = r + 1) {v : Int} : z_Call mX8_windsWith zF [(1, r), (0, v)] M (zpF 0 (zCnt (M (r + 1)) v 8) M) := by
  refine z_enter (k := 2) rfl rfl rfl ?_
  refine zr_iconst (q := 1) dX8_windsWith_0 rfl (z_in_of rfl) ?_
  refine zp_is2 (q := 2) dX8_windsWith_1 rfl rfl rfl ?_
  refine zr_iconst (q := 3) dX8_windsWith_2 rfl (z_in_of rfl) ?_
  refine zp_is3 (q := 4) dX8_windsWith_3 rfl rfl rfl ?_
  exact s_X8_windsWith_l hr hp 9 0 (by omega) (by omega) (by omega)
theorem s_X8_windWith_l (hr : zRo r) (hp : M r 0 = r + 1) {v i : Int} (h0i : 0 ≤ i) (h1i : i < zCnt (M (r + 1)) v 8) {bc bs : Nat} : ∀ (m : Nat) (k : Int), 0 ≤ k → k ≤ 8 → 8 - k < m → zCnt (M (r + 1)) v k ≤ i →
    z_Ex mX8_windWith zF 5 [(1, r), (0, v), (0, i), (0, zCnt (M (r + 1)) v k), (0, k)] [] M bc bs (zpF 0 (zNth (M (r + 1)) v i) M) := by
  have o0 := zRo_0 hr
  have o1 := zRo_1 hr
  intro m
  induction m with
  | zero => intro k h0 h1 h2; omega
  | succ m ih =>
    intro k h0 h1 h2 h3
    have hb := zCnt_range (M (r + 1)) v h0
    have e := ih (k + 1) (by omega)
    rw [zCnt_s _ _ h0] at e
    refine zp_il4 (q := 7) dX8_windWith_5 rfl ?_
    refine zr_bipush (q := 9) dX8_windWith_7 rfl (z_in_of rfl) (by decide +kernel) ?_
    refine zr_icmp_ge (q := 40) (q2 := 12) dX8_windWith_9 (by decide) rfl (fun h9 => ?_) (fun h9 => ?_)
    · refine zr_iconst (q := 41) dX8_windWith_40 rfl (z_in_of rfl) ?_
      refine zr_ireturn dX8_windWith_41 rfl (z_fit_i _) ?_
      have e8 : k = 8 := by omega
      subst e8
      omega
    · refine zp_al0 (q := 13) dX8_windWith_12 rfl ?_
      refine zf_getG (v := r + 1) 0 (by first | assumption | exact k508) (hp) rfl fdX8_9 (q := 16) dX8_windWith_13 rfl rfl ?_
      refine zp_il4 (q := 18) dX8_windWith_16 rfl ?_
      refine zf_iald (v := _) (by first | assumption | exact k518 | exact k519 | exact k520 | exact k521 | exact k522 | exact k523 | exact k524 | exact k525 | exact k526 | exact k527 | exact k528 | exact k510 | exact k512 | exact k515 | exact k516 | exact k507 | exact k509 | exact k135 | exact k489 | exact k529 | exact k530) (rfl) (q := 19) dX8_windWith_18 rfl (by omega) (by omega) ?_
      refine zp_il1 (q := 20) dX8_windWith_19 rfl ?_
      refine zr_icmp_ne (q := 34) (q2 := 23) dX8_windWith_20 (by decide) rfl (fun h20 => ?_) (fun h20 => ?_)
      · refine zp_inc4 (q := 37) dX8_windWith_34 rfl rfl rfl (fun hA => by unfold z_in at hA ⊢; omega) ?_
        refine zr_goto (q := 5) dX8_windWith_37 (by decide) ?_
        first | (rw [if_pos (by omega)] at e; exact e (by omega) (by omega) (by omega)) | (rw [if_neg (by omega), Int.add_zero] at e; exact e (by omega) (by omega) (by omega))
      · refine zp_il3 (q := 24) dX8_windWith_23 rfl ?_
        refine zp_il2 (q := 25) dX8_windWith_24 rfl ?_
        refine zr_icmp_ne (q := 31) (q2 := 28) dX8_windWith_25 (by decide) rfl (fun h25 => ?_) (fun h25 => ?_)
        · refine zp_inc3 (q := 34) dX8_windWith_31 rfl rfl rfl (fun hA => by unfold z_in at hA ⊢; omega) ?_
          refine zp_inc4 (q := 37) dX8_windWith_34 rfl rfl rfl (fun hA => by unfold z_in at hA ⊢; omega) ?_
          refine zr_goto (q := 5) dX8_windWith_37 (by decide) ?_
          first | (rw [if_pos (by omega)] at e; exact e (by omega) (by omega) (by omega)) | (rw [if_neg (by omega), Int.add_zero] at e; exact e (by omega) (by omega) (by omega))
        · refine zp_il4 (q := 30) dX8_windWith_28 rfl ?_
          refine zr_ireturn dX8_windWith_30 rfl (z_fit_i _) ?_
          exact ⟨by rw [zNth_eq _ _ h0 (by omega) (by omega) (by omega)], rfl, rfl⟩
theorem s_X8_windWith (hr : zRo r) (hp : M r 0 = r + 1) {v i : Int} (h0i : 0 ≤ i) (h1i : i < zCnt (M (r + 1)) v 8) : z_Call mX8_windWith zF [(1, r), (0, v), (0, i)] M (zpF 0 (zNth (M (r + 1)) v i) M) := by
  have e0 : zCnt (M (r + 1)) v 0 = 0 := rfl
  refine z_enter (k := 2) rfl rfl rfl ?_
  refine zr_iconst (q := 1) dX8_windWith_0 rfl (z_in_of rfl) ?_
  refine zp_is3 (q := 2) dX8_windWith_1 rfl rfl rfl ?_
  refine zr_iconst (q := 3) dX8_windWith_2 rfl (z_in_of rfl) ?_
  refine zp_is4 (q := 5) dX8_windWith_3 rfl rfl rfl ?_
  exact s_X8_windWith_l hr hp h0i h1i 9 0 (by omega) (by omega) (by omega) (by omega)
/-- a round is decided: its winner, who falls, whether by a tie, and the spinner -/
theorem s_X8_decide (hr : zRo r) (hp : M r 0 = r + 1) (hv : zVb (M (r + 1))) {s : Int} (hs : 0 ≤ s ∧ s < 16) (he : ∃ w, 0 ≤ w ∧ w < 8 ∧ M (r + 1) w ≠ -1) : z_Call mX8_decide zF [(1, r), (0, s)] M (fun r' S' M' => r' = (0, zSn (M (r + 1)) s) ∧ S' = zF ∧ (∀ z, z ≠ r → M' z = M z) ∧ M' r 0 = r + 1 ∧ M' r 1 = M r 1 ∧ M' r 2 = zWn (M (r + 1)) ∧ M' r 3 = zEl (M (r + 1)) s ∧ M' r 4 = zTi (M (r + 1))) := by
  obtain ⟨w, w0, w1, w2⟩ := he
  have o0 := zRo_0 hr
  have o1 := zRo_1 hr
  have hf := zFw_ex w0 w1 w2
  have hc8 := zCnt_range (M (r + 1)) (zFw (M (r + 1))) (k := 8) (by omega)
  have hwc : zWc (M (r + 1)) = zCnt (M (r + 1)) (zFw (M (r + 1))) 8 := rfl
  have ev : ∀ j x, z_up M r j x (r + 1) = M (r + 1) := fun j x => z_up_ne (by omega)
  have ev2 : ∀ j x k y, z_up (z_up M r j x) r k y (r + 1) = M (r + 1) := fun j x k y => by rw [z_up_ne (by omega), z_up_ne (by omega)]
  have ev3 : ∀ j x k y l z, z_up (z_up (z_up M r j x) r k y) r l z (r + 1) = M (r + 1) := fun j x k y l z => by rw [z_up_ne (by omega), z_up_ne (by omega), z_up_ne (by omega)]
  have ev4 : ∀ j x k y l z a b, z_up (z_up (z_up (z_up M r j x) r k y) r l z) r a b (r + 1) = M (r + 1) := fun j x k y l z a b => by rw [z_up_ne (by omega), z_up_ne (by omega), z_up_ne (by omega), z_up_ne (by omega)]
  refine z_enter (k := 3) rfl rfl rfl ?_
  refine zp_al0 (q := 1) dX8_decide_0 rfl ?_
  refine zr_iconst (q := 2) dX8_decide_1 rfl (z_in_of rfl) ?_
  refine zf_putG 4 (by first | assumption | exact k508) rfl fpX8_25 (q := 5) dX8_decide_2 rfl rfl (by decide) (z_fit_z (by decide)) ?_
  refine zp_al0 (q := 6) dX8_decide_5 rfl ?_
  refine zr_iconst (q := 7) dX8_decide_6 rfl (z_in_of rfl) ?_
  refine zf_putG 3 (by first | assumption | exact k508) rfl fpX8_22 (q := 10) dX8_decide_7 rfl rfl (by decide) (z_fit_i _) ?_
  refine zp_al0 (q := 11) dX8_decide_10 rfl ?_
  refine zp_al0 (q := 12) dX8_decide_11 rfl ?_
  refine zp_al0 (q := 13) dX8_decide_12 rfl ?_
  refine zf_callV0 (by first | assumption | exact k508) (s_X8_sumOfVotes hr (by rw [z_up_sl (by decide), z_up_sl (by decide)]; exact hp) (by rw [ev2]; exact hv)) mtX8_sumOfVotes wiX8_sumOfVotes weX8_sumOfVotes wlX8_53 (q := 16) dX8_decide_13 rfl rfl rfl rfl rfl rfl rfl (fun r S9 M9 h8 hP => ?_) (fun k S9 M9 hP => (z_no hP.1 rfl).elim)
  obtain ⟨rfl, rfl, h9⟩ := hP
  subst M9
  rw [ev2]
  refine zp_al0 (q := 17) dX8_decide_16 rfl ?_
  refine zf_callV0 (by first | assumption | exact k508) (s_X8_continuingWinds hr (by rw [z_up_sl (by decide), z_up_sl (by decide)]; exact hp)) mtX8_continuingWinds wiX8_continuingWinds weX8_continuingWinds wlX8_57 (q := 20) dX8_decide_17 rfl rfl rfl rfl rfl rfl rfl (fun r S9 M9 h8 hP => ?_) (fun k S9 M9 hP => (z_no hP.1 rfl).elim)
  obtain ⟨rfl, rfl, h9⟩ := hP
  subst M9
  rw [ev2]
  have e20 := s_X8_windThatWins (M := z_up (z_up M r 4 0) r 3 (-1)) hr (by rw [z_up_sl (by decide), z_up_sl (by decide)]; exact hp) (by rw [ev2]; exact hv)
  rw [ev2] at e20
  refine zf_callV2 (by first | assumption | exact k508) (e20) mtX8_windThatWins wiX8_windThatWins weX8_windThatWins wlX8_60 (q := 23) dX8_decide_20 rfl rfl rfl rfl rfl rfl rfl (fun r S9 M9 h8 hP => ?_) (fun k S9 M9 hP => (z_no hP.1 rfl).elim)
  obtain ⟨rfl, rfl, h9⟩ := hP
  subst M9
  refine zf_putG 2 (by first | assumption | exact k508) rfl fpX8_19 (q := 26) dX8_decide_23 rfl rfl (by decide) (z_fit_i _) ?_
  refine zp_al0 (q := 27) dX8_decide_26 rfl ?_
  refine zf_getG (v := zWn (M (r + 1))) 2 (by first | assumption | exact k508) (z_up_eq) rfl fdX8_19 (q := 30) dX8_decide_27 rfl rfl ?_
  refine zr_iconst (q := 31) dX8_decide_30 rfl (z_in_of rfl) ?_
  refine zr_icmp_eq (q := 36) (q2 := 34) dX8_decide_31 (by decide) rfl (fun h31 => ?_) (fun h31 => ?_)
  · refine zp_al0 (q := 37) dX8_decide_36 rfl ?_
    refine zf_callV0 (by first | assumption | exact k508) (s_X8_fewestVotes hr (by rw [z_up_sl (by decide), z_up_sl (by decide), z_up_sl (by decide)]; exact hp)) mtX8_fewestVotes wiX8_fewestVotes weX8_fewestVotes wlX8_64 (q := 40) dX8_decide_37 rfl rfl rfl rfl rfl rfl rfl (fun r S9 M9 h8 hP => ?_) (fun k S9 M9 hP => (z_no hP.1 rfl).elim)
    obtain ⟨rfl, rfl, h9⟩ := hP
    subst M9
    rw [ev3]
    refine zp_is2 (q := 41) dX8_decide_40 rfl rfl rfl ?_
    refine zp_al0 (q := 42) dX8_decide_41 rfl ?_
    refine zp_il2 (q := 43) dX8_decide_42 rfl ?_
    refine zf_callV1 (by first | assumption | exact k508) (s_X8_windsWith hr (by rw [z_up_sl (by decide), z_up_sl (by decide), z_up_sl (by decide)]; exact hp)) mtX8_windsWith wiX8_windsWith weX8_windsWith wlX8_67 (q := 46) dX8_decide_43 rfl rfl rfl rfl rfl rfl rfl (fun r S9 M9 h8 hP => ?_) (fun k S9 M9 hP => (z_no hP.1 rfl).elim)
    obtain ⟨rfl, rfl, h9⟩ := hP
    subst M9
    rw [ev3]
    refine zp_is3 (q := 47) dX8_decide_46 rfl rfl rfl ?_
    refine zp_il3 (q := 48) dX8_decide_47 rfl ?_
    refine zr_iconst (q := 49) dX8_decide_48 rfl (z_in_of rfl) ?_
    refine zr_icmp_ge (q := 64) (q2 := 52) dX8_decide_49 (by decide) rfl (fun h49 => ?_) (fun h49 => ?_)
    · refine zp_al0 (q := 65) dX8_decide_64 rfl ?_
      refine zr_iconst (q := 66) dX8_decide_65 rfl (z_in_of rfl) ?_
      refine zf_putG 4 (by first | assumption | exact k508) rfl fpX8_25 (q := 69) dX8_decide_66 rfl rfl (by decide) (z_fit_z (by decide)) ?_
      refine zp_il1 (q := 70) dX8_decide_69 rfl ?_
      refine zp_callSN1 (s_X11_spun hs.1 hs.2) (fun k S9 M9 hP => (z_no hP.1 rfl).elim) mtX11_spun wtX11_spun wnX8_74 (q := 73) dX8_decide_70 rfl rfl rfl rfl rfl (fun r S9 M9 h8 hP => ?_)
      obtain ⟨rfl, rfl, h9⟩ := hP
      subst M9
      refine zp_is4 (q := 75) dX8_decide_73 rfl rfl rfl ?_
      refine zp_al0 (q := 76) dX8_decide_75 rfl ?_
      refine zp_al0 (q := 77) dX8_decide_76 rfl ?_
      refine zp_il2 (q := 78) dX8_decide_77 rfl ?_
      refine zp_il4 (q := 80) dX8_decide_78 rfl ?_
      refine zp_il3 (q := 81) dX8_decide_80 rfl ?_
      refine zr_irem (q := 82) dX8_decide_81 rfl (by omega) (by omega) ?_
      refine zf_callV2 (by first | assumption | exact k508) (s_X8_windWith hr (by rw [z_up_sl (by decide), z_up_sl (by decide), z_up_sl (by decide), z_up_sl (by decide)]; exact hp) (Int.emod_nonneg _ (by omega)) (by rw [ev4]; exact Int.emod_lt_of_pos _ (by omega))) mtX8_windWith wiX8_windWith weX8_windWith wlX8_71 (q := 85) dX8_decide_82 rfl rfl rfl rfl rfl rfl rfl (fun r S9 M9 h8 hP => ?_) (fun k S9 M9 hP => (z_no hP.1 rfl).elim)
      obtain ⟨rfl, rfl, h9⟩ := hP
      subst M9
      rw [ev4]
      refine zf_putG 3 (by first | assumption | exact k508) rfl fpX8_22 (q := 88) dX8_decide_85 rfl rfl (by decide) (z_fit_i _) ?_
      refine zp_il4 (q := 90) dX8_decide_88 rfl ?_
      refine zr_ireturn dX8_decide_90 rfl (z_fit_i _) ?_
      refine ⟨by unfold zSn; rw [if_pos (by omega)], rfl, fun z hz => by rw [z_up_ne hz, z_up_ne hz, z_up_ne hz, z_up_ne hz, z_up_ne hz], by rw [z_up_sl (by decide), z_up_sl (by decide), z_up_sl (by decide), z_up_sl (by decide), z_up_sl (by decide)]; exact hp, by rw [z_up_sl (by decide), z_up_sl (by decide), z_up_sl (by decide), z_up_sl (by decide), z_up_sl (by decide)], by rw [z_up_sl (by decide), z_up_sl (by decide), z_up_eq], by rw [z_up_eq]; unfold zEl; rw [if_pos (by omega), if_pos (by omega), hwc], by rw [z_up_sl (by decide), z_up_eq]; unfold zTi; rw [if_pos (by omega)]⟩
    · refine zp_al0 (q := 53) dX8_decide_52 rfl ?_
      refine zp_al0 (q := 54) dX8_decide_53 rfl ?_
      refine zp_il2 (q := 55) dX8_decide_54 rfl ?_
      refine zr_iconst (q := 56) dX8_decide_55 rfl (z_in_of rfl) ?_
      refine zf_callV2 (by first | assumption | exact k508) (s_X8_windWith hr (by rw [z_up_sl (by decide), z_up_sl (by decide), z_up_sl (by decide)]; exact hp) (by decide) (by rw [ev3]; omega)) mtX8_windWith wiX8_windWith weX8_windWith wlX8_71 (q := 59) dX8_decide_56 rfl rfl rfl rfl rfl rfl rfl (fun r S9 M9 h8 hP => ?_) (fun k S9 M9 hP => (z_no hP.1 rfl).elim)
      obtain ⟨rfl, rfl, h9⟩ := hP
      subst M9
      rw [ev3]
      refine zf_putG 3 (by first | assumption | exact k508) rfl fpX8_22 (q := 62) dX8_decide_59 rfl rfl (by decide) (z_fit_i _) ?_
      refine zp_il1 (q := 63) dX8_decide_62 rfl ?_
      refine zr_ireturn dX8_decide_63 rfl (z_fit_i _) ?_
      refine ⟨by unfold zSn; rw [if_neg (by omega)], rfl, fun z hz => by rw [z_up_ne hz, z_up_ne hz, z_up_ne hz, z_up_ne hz], by rw [z_up_sl (by decide), z_up_sl (by decide), z_up_sl (by decide), z_up_sl (by decide)]; exact hp, by rw [z_up_sl (by decide), z_up_sl (by decide), z_up_sl (by decide), z_up_sl (by decide)], by rw [z_up_sl (by decide), z_up_eq], by rw [z_up_eq]; unfold zEl; rw [if_pos (by omega), if_neg (by omega)], by rw [z_up_sl (by decide), z_up_sl (by decide), z_up_sl (by decide), z_up_eq]; unfold zTi; rw [if_neg (by omega)]⟩
  · refine zp_il1 (q := 35) dX8_decide_34 rfl ?_
    refine zr_ireturn dX8_decide_35 rfl (z_fit_i _) ?_
    refine ⟨by unfold zSn; rw [if_neg (by omega)], rfl, fun z hz => by rw [z_up_ne hz, z_up_ne hz, z_up_ne hz], by rw [z_up_sl (by decide), z_up_sl (by decide), z_up_sl (by decide)]; exact hp, by rw [z_up_sl (by decide), z_up_sl (by decide), z_up_sl (by decide)], z_up_eq, by rw [z_up_sl (by decide), z_up_eq]; unfold zEl; rw [if_neg (by omega)], by rw [z_up_sl (by decide), z_up_sl (by decide), z_up_eq]; unfold zTi; rw [if_neg (by omega)]⟩
end ZRO
