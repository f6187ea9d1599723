/-! dep: 40 41 42 43 44 -/
/-! ===== the reference: the rest of what changes its row ===== -/
def zFil (M : zM) (z p n x : Int) : zM := fun a j => if a = z ∧ p ≤ j ∧ j < p + n then x else M a j
theorem zFil_0 (M : zM) (z p x : Int) : zFil M z p 0 x = M := by
  funext a j
  unfold zFil
  rw [if_neg (by omega)]
theorem zFil_s {M : zM} {z p n x : Int} (h : 0 ≤ n) : z_up (zFil M z p n x) z (p + n) x = zFil M z p (n + 1) x := by
  funext a j
  unfold z_up zFil
  by_cases e : a = z ∧ j = p + n
  · rw [if_pos e, if_pos (by omega)]
  · rw [if_neg e]
    by_cases e2 : a = z ∧ p ≤ j ∧ j < p + n
    · rw [if_pos e2, if_pos (by omega)]
    · rw [if_neg e2, if_neg (by omega)]
theorem zFil_ne {M : zM} {z p n x a : Int} (h : a ≠ z) : zFil M z p n x a = M a := by
  funext j
  unfold zFil
  rw [if_neg (fun c => h c.1)]
theorem zFil_out {M : zM} {z p n x a j : Int} (h : ¬ (p ≤ j ∧ j < p + n)) : zFil M z p n x a j = M a j := by
  unfold zFil
  rw [if_neg (fun c => h c.2)]
section ZMS
variable {M : zM}
theorem s_X12_withdraw (H : zHm M) (hG : zWF (M 518)) (h5 : 0 ≤ M 517 5 ∧ M 517 5 ≤ 8) {w : Int} (h0 : 0 ≤ w) (h1 : w < M 518 0) (h2 : M 518 (4 + w) = 0) : z_Call mX12_withdraw zF [(1, 517), (0, w)] M (zmA (zSt (gGo (M 518) w)) (gGo (M 518) w) M) := by
  have hw := hG.w
  have hG' := hG.go h0 h1 h2
  refine z_enter (k := 0) rfl rfl rfl ?_
  refine zp_al0 (q := 1) dX12_withdraw_0 rfl ?_
  refine zp_al0 (q := 2) dX12_withdraw_1 rfl ?_
  refine zp_il1 (q := 3) dX12_withdraw_2 rfl ?_
  refine zf_callV1 (k517) (s_X12_isWind H hG.w) mtX12_isWind wiX12_isWind weX12_isWind wlX12_74 (q := 6) dX12_withdraw_3 rfl rfl rfl rfl rfl rfl rfl (fun r S9 M9 h8 hP => ?_) (fun k S9 M9 hP => (z_no hP.1 rfl).elim)
  obtain ⟨rfl, rfl, h9⟩ := hP
  subst M9
  rw [if_pos ⟨h0, h1⟩]
  refine zr_if_ne (q := 13) (q2 := 9) dX12_withdraw_6 (by decide) rfl (fun h6 => ?_) (fun h6 => ?_)
  · refine zp_al0 (q := 14) dX12_withdraw_13 rfl ?_
    refine zp_il1 (q := 15) dX12_withdraw_14 rfl ?_
    refine zf_callV1 (k517) (s_X12_stands H h0 (by omega)) mtX12_stands wiX12_stands weX12_stands wlX12_70 (q := 18) dX12_withdraw_15 rfl rfl rfl rfl rfl rfl rfl (fun r S9 M9 h8 hP => ?_) (fun k S9 M9 hP => (z_no hP.1 rfl).elim)
    obtain ⟨rfl, rfl, h9⟩ := hP
    subst M9
    rw [if_pos h2]
    refine zr_if_eq (q := 25) (q2 := 21) dX12_withdraw_18 (by decide) rfl (fun h18 => ?_) (fun h18 => ?_)
    · exact absurd h18 (by decide)
    · refine zr_iconst (q := 22) dX12_withdraw_21 rfl (z_in_of rfl) ?_
      refine zr_goto (q := 26) dX12_withdraw_22 (by decide) ?_
      refine zf_callV1 (k517) (s_X12_fails) mtX12_fails wiX12_fails weX12_fails wlX12_77 (q := 29) dX12_withdraw_26 rfl rfl rfl rfl rfl rfl rfl (fun r S9 M9 h8 hP => ?_) (fun k S9 M9 hP => (z_no hP.1 rfl).elim)
      obtain ⟨rfl, rfl, h9⟩ := hP
      subst M9
      refine zr_if_eq (q := 34) (q2 := 32) dX12_withdraw_29 (by decide) rfl (fun h29 => ?_) (fun h29 => ?_)
      · refine zp_al0 (q := 35) dX12_withdraw_34 rfl ?_
        refine zp_al0 (q := 36) dX12_withdraw_35 rfl ?_
        refine zf_getG (v := 518) 0 (k517) (H.1) rfl fdX12_7 (q := 39) dX12_withdraw_36 rfl rfl ?_
        refine zf_callV1 (k517) (s_X12_keeps (u := 518) H.c k518 (by decide) (by decide) h5) mtX12_keeps wiX12_keeps weX12_keeps wlX12_80 (q := 42) dX12_withdraw_39 rfl rfl rfl rfl rfl rfl rfl (fun r S9 M9 h8 hP => ?_) (fun k S9 M9 hP => (z_no hP.1 rfl).elim)
        obtain ⟨rfl, rfl, x1, x2, x3, x4⟩ := hP
        have H9 := H.c.k x2
        have e8 : M9 518 = M 518 := x1 518 (by decide) (by decide)
        refine zp_al0 (q := 43) dX12_withdraw_42 rfl ?_
        refine zf_getG (v := 518) 0 (k517) (H9.1) rfl fdX12_7 (q := 46) dX12_withdraw_43 rfl rfl ?_
        refine zr_iconst (q := 47) dX12_withdraw_46 rfl (z_in_of rfl) ?_
        refine zp_il1 (q := 48) dX12_withdraw_47 rfl ?_
        refine zr_iadd (q := 49) dX12_withdraw_48 rfl (fun hA hB => by unfold z_in at hA hB ⊢; omega) ?_
        refine zr_iconst (q := 50) dX12_withdraw_49 rfl (z_in_of rfl) ?_
        refine zf_iast (by first | assumption | exact k518 | exact k519 | exact k520 | exact k521 | exact k522 | exact k523 | exact k524 | exact k525 | exact k526 | exact k527 | exact k528 | exact k510 | exact k512 | exact k515 | exact k516 | exact k507 | exact k509 | exact k135 | exact k489 | exact k529 | exact k530) (q := 51) dX12_withdraw_50 rfl (by omega) (by omega) ?_
        have eg : z_up M9 518 (4 + w) 1 518 = gGo (M 518) w := by
          funext j
          unfold z_up gGo zSet
          rw [e8]
          by_cases e : j = 4 + w
          · rw [if_pos ⟨rfl, e⟩, if_pos e]
          · rw [if_neg (fun c => e c.2), if_neg e]
        refine zp_al0 (q := 52) dX12_withdraw_51 rfl ?_
        refine zf_callV0 (k517) (s_X12_standing (M := z_up M9 518 (4 + w) 1) H9 (by rw [eg]; exact hG')) mtX12_standing wiX12_standing weX12_standing wlX12_84 (q := 55) dX12_withdraw_52 rfl rfl rfl rfl rfl rfl rfl (fun r S9 M9 h8 hP => ?_) (fun k S9 M9 hP => (z_no hP.1 rfl).elim)
        obtain ⟨rfl, rfl, h9⟩ := hP
        subst M9
        rw [eg]
        refine zr_ireturn dX12_withdraw_55 rfl (z_fit_i _) ?_
        exact ⟨rfl, rfl, z_mF (M1 := M9) (fun z a b => (x1 z a b).trans (z_up_ne a)) (fun j a b => (x2 j a b).trans (z_up_sl b)) (fun z a => by rw [z_up_ne a]), by rw [z_up_ne (by decide)]; exact x3, z_mK x4 (fun z a => by rw [z_up_ne a]), eg⟩
      · exact absurd h29 (by decide)
  · exact absurd (by decide) h6
theorem s_X12_withdraw_x (H : zHm M) (hG : zWF (M 518)) {w : Int} (h0 : ¬ (0 ≤ w ∧ w < M 518 0)) : z_Call mX12_withdraw zF [(1, 517), (0, w)] M (zpF 0 0 (z_up M 517 7 1)) := by
  refine z_enter (k := 0) rfl rfl rfl ?_
  refine zp_al0 (q := 1) dX12_withdraw_0 rfl ?_
  refine zp_al0 (q := 2) dX12_withdraw_1 rfl ?_
  refine zp_il1 (q := 3) dX12_withdraw_2 rfl ?_
  refine zf_callV1 (k517) (s_X12_isWind H hG.w) mtX12_isWind wiX12_isWind weX12_isWind wlX12_74 (q := 6) dX12_withdraw_3 rfl rfl rfl rfl rfl rfl rfl (fun r S9 M9 h8 hP => ?_) (fun k S9 M9 hP => (z_no hP.1 rfl).elim)
  obtain ⟨rfl, rfl, h9⟩ := hP
  subst M9
  rw [if_neg h0]
  refine zr_if_ne (q := 13) (q2 := 9) dX12_withdraw_6 (by decide) rfl (fun h6 => ?_) (fun h6 => ?_)
  · exact absurd rfl h6
  · refine zr_iconst (q := 10) dX12_withdraw_9 rfl (z_in_of rfl) ?_
    refine zr_goto (q := 26) dX12_withdraw_10 (by decide) ?_
    refine zf_callV1 (k517) (s_X12_fails) mtX12_fails wiX12_fails weX12_fails wlX12_77 (q := 29) dX12_withdraw_26 rfl rfl rfl rfl rfl rfl rfl (fun r S9 M9 h8 hP => ?_) (fun k S9 M9 hP => (z_no hP.1 rfl).elim)
    obtain ⟨rfl, rfl, h9⟩ := hP
    subst M9
    refine zr_if_eq (q := 34) (q2 := 32) dX12_withdraw_29 (by decide) rfl (fun h29 => ?_) (fun h29 => ?_)
    · exact absurd h29 (by decide)
    · refine zr_iconst (q := 33) dX12_withdraw_32 rfl (z_in_of rfl) ?_
      refine zr_ireturn dX12_withdraw_33 rfl (z_fit_i _) ?_
      exact ⟨rfl, rfl, rfl⟩
theorem s_X12_withdraw_y (H : zHm M) (hG : zWF (M 518)) {w : Int} (h0 : 0 ≤ w) (h1 : w < M 518 0) (h2 : M 518 (4 + w) ≠ 0) : z_Call mX12_withdraw zF [(1, 517), (0, w)] M (zpF 0 0 (z_up M 517 7 2)) := by
  have hw := hG.w
  refine z_enter (k := 0) rfl rfl rfl ?_
  refine zp_al0 (q := 1) dX12_withdraw_0 rfl ?_
  refine zp_al0 (q := 2) dX12_withdraw_1 rfl ?_
  refine zp_il1 (q := 3) dX12_withdraw_2 rfl ?_
  refine zf_callV1 (k517) (s_X12_isWind H hG.w) mtX12_isWind wiX12_isWind weX12_isWind wlX12_74 (q := 6) dX12_withdraw_3 rfl rfl rfl rfl rfl rfl rfl (fun r S9 M9 h8 hP => ?_) (fun k S9 M9 hP => (z_no hP.1 rfl).elim)
  obtain ⟨rfl, rfl, h9⟩ := hP
  subst M9
  rw [if_pos ⟨h0, h1⟩]
  refine zr_if_ne (q := 13) (q2 := 9) dX12_withdraw_6 (by decide) rfl (fun h6 => ?_) (fun h6 => ?_)
  · refine zp_al0 (q := 14) dX12_withdraw_13 rfl ?_
    refine zp_il1 (q := 15) dX12_withdraw_14 rfl ?_
    refine zf_callV1 (k517) (s_X12_stands H h0 (by omega)) mtX12_stands wiX12_stands weX12_stands wlX12_70 (q := 18) dX12_withdraw_15 rfl rfl rfl rfl rfl rfl rfl (fun r S9 M9 h8 hP => ?_) (fun k S9 M9 hP => (z_no hP.1 rfl).elim)
    obtain ⟨rfl, rfl, h9⟩ := hP
    subst M9
    rw [if_neg h2]
    refine zr_if_eq (q := 25) (q2 := 21) dX12_withdraw_18 (by decide) rfl (fun h18 => ?_) (fun h18 => ?_)
    · refine zr_iconst (q := 26) dX12_withdraw_25 rfl (z_in_of rfl) ?_
      refine zf_callV1 (k517) (s_X12_fails) mtX12_fails wiX12_fails weX12_fails wlX12_77 (q := 29) dX12_withdraw_26 rfl rfl rfl rfl rfl rfl rfl (fun r S9 M9 h8 hP => ?_) (fun k S9 M9 hP => (z_no hP.1 rfl).elim)
      obtain ⟨rfl, rfl, h9⟩ := hP
      subst M9
      refine zr_if_eq (q := 34) (q2 := 32) dX12_withdraw_29 (by decide) rfl (fun h29 => ?_) (fun h29 => ?_)
      · exact absurd h29 (by decide)
      · refine zr_iconst (q := 33) dX12_withdraw_32 rfl (z_in_of rfl) ?_
        refine zr_ireturn dX12_withdraw_33 rfl (z_fit_i _) ?_
        exact ⟨rfl, rfl, rfl⟩
    · exact absurd rfl h18
  · exact absurd (by decide) h6
theorem s_X12_addBallot_k (H : zHm M) {x f p : Int} (hp : 0 ≤ p) (hp2 : p + 7 ≤ 160) {bc bs : Nat} {Q : zV → zS → zM → Prop} (kk : z_Ex mX12_addBallot zF 95 [(1, 517), (0, x), (0, f), (0, p), (0, 7)] [] (zFil M 518 p 7 0) bc bs Q) : ∀ (m : Nat) (k : Int), 0 ≤ k → k ≤ 7 → 7 - k < m →
    z_Ex mX12_addBallot zF 72 [(1, 517), (0, x), (0, f), (0, p), (0, k)] [] (zFil M 518 p k 0) bc bs Q := by
  intro m
  induction m with
  | zero => intro k a1 a2 a3; omega
  | succ m ih =>
    intro k a1 a2 a3
    refine zp_il4 (q := 74) dX12_addBallot_72 rfl ?_
    refine zr_bipush (q := 76) dX12_addBallot_74 rfl (z_in_of rfl) (by decide +kernel) ?_
    refine zr_icmp_ge (q := 95) (q2 := 79) dX12_addBallot_76 (by decide) rfl (fun h76 => ?_) (fun h76 => ?_)
    · have e : k = 7 := by omega
      subst e
      exact kk
    · refine zp_al0 (q := 80) dX12_addBallot_79 rfl ?_
      refine zf_getG (v := 518) 0 (k517) (by rw [zFil_ne (by decide)]; exact H.1) rfl fdX12_7 (q := 83) dX12_addBallot_80 rfl rfl ?_
      refine zp_il3 (q := 84) dX12_addBallot_83 rfl ?_
      refine zp_il4 (q := 86) dX12_addBallot_84 rfl ?_
      refine zr_iadd (q := 87) dX12_addBallot_86 rfl (fun hA hB => by unfold z_in at hA hB ⊢; omega) ?_
      refine zr_iconst (q := 88) dX12_addBallot_87 rfl (z_in_of rfl) ?_
      refine zf_iast (by first | assumption | exact k518 | exact k519 | exact k520 | exact k521 | exact k522 | exact k523 | exact k524 | exact k525 | exact k526 | exact k527 | exact k528 | exact k510 | exact k512 | exact k515 | exact k516 | exact k507 | exact k509 | exact k135 | exact k489 | exact k529 | exact k530) (q := 89) dX12_addBallot_88 rfl (by omega) (by omega) ?_
      refine zp_inc4 (q := 92) dX12_addBallot_89 rfl rfl rfl (fun hA => by unfold z_in at hA ⊢; omega) ?_
      refine zr_goto (q := 72) dX12_addBallot_92 (by decide) ?_
      rw [zFil_s a1]
      exact ih (k + 1) (by omega) (by omega) (by omega)
theorem s_X12_addBallot_t {N : zM} (H : zHm N) {x f n : Int} (hn : N 518 1 = n) (hn0 : 0 ≤ n ∧ n < 20) {bc bs : Nat} {Q : zV → zS → zM → Prop} (hQ : Q (0, n) zF (z_up (z_up (z_up (z_up N 518 (20 + 7 * n) x) 518 (20 + 7 * n + 1) 1) 518 (20 + 7 * n + 2) f) 518 1 (n + 1))) :
    z_Ex mX12_addBallot zF 95 [(1, 517), (0, x), (0, f), (0, 20 + 7 * n), (0, 7)] [] N bc bs Q := by
  refine zp_al0 (q := 96) dX12_addBallot_95 rfl ?_
  refine zf_getG (v := 518) 0 (k517) (H.1) rfl fdX12_7 (q := 99) dX12_addBallot_96 rfl rfl ?_
  refine zp_il3 (q := 100) dX12_addBallot_99 rfl ?_
  refine zp_il1 (q := 101) dX12_addBallot_100 rfl ?_
  refine zf_iast (by first | assumption | exact k518 | exact k519 | exact k520 | exact k521 | exact k522 | exact k523 | exact k524 | exact k525 | exact k526 | exact k527 | exact k528 | exact k510 | exact k512 | exact k515 | exact k516 | exact k507 | exact k509 | exact k135 | exact k489 | exact k529 | exact k530) (q := 102) dX12_addBallot_101 rfl (by omega) (by omega) ?_
  refine zp_al0 (q := 103) dX12_addBallot_102 rfl ?_
  refine zf_getG (v := 518) 0 (k517) (H.1) rfl fdX12_7 (q := 106) dX12_addBallot_103 rfl rfl ?_
  refine zp_il3 (q := 107) dX12_addBallot_106 rfl ?_
  refine zr_iconst (q := 108) dX12_addBallot_107 rfl (z_in_of rfl) ?_
  refine zr_iadd (q := 109) dX12_addBallot_108 rfl (fun hA hB => by unfold z_in at hA hB ⊢; omega) ?_
  refine zr_iconst (q := 110) dX12_addBallot_109 rfl (z_in_of rfl) ?_
  refine zf_iast (by first | assumption | exact k518 | exact k519 | exact k520 | exact k521 | exact k522 | exact k523 | exact k524 | exact k525 | exact k526 | exact k527 | exact k528 | exact k510 | exact k512 | exact k515 | exact k516 | exact k507 | exact k509 | exact k135 | exact k489 | exact k529 | exact k530) (q := 111) dX12_addBallot_110 rfl (by omega) (by omega) ?_
  refine zp_al0 (q := 112) dX12_addBallot_111 rfl ?_
  refine zf_getG (v := 518) 0 (k517) (H.1) rfl fdX12_7 (q := 115) dX12_addBallot_112 rfl rfl ?_
  refine zp_il3 (q := 116) dX12_addBallot_115 rfl ?_
  refine zr_iconst (q := 117) dX12_addBallot_116 rfl (z_in_of rfl) ?_
  refine zr_iadd (q := 118) dX12_addBallot_117 rfl (fun hA hB => by unfold z_in at hA hB ⊢; omega) ?_
  refine zp_il2 (q := 119) dX12_addBallot_118 rfl ?_
  refine zf_iast (by first | assumption | exact k518 | exact k519 | exact k520 | exact k521 | exact k522 | exact k523 | exact k524 | exact k525 | exact k526 | exact k527 | exact k528 | exact k510 | exact k512 | exact k515 | exact k516 | exact k507 | exact k509 | exact k135 | exact k489 | exact k529 | exact k530) (q := 120) dX12_addBallot_119 rfl (by omega) (by omega) ?_
  refine zp_al0 (q := 121) dX12_addBallot_120 rfl ?_
  refine zf_getG (v := 518) 0 (k517) (H.1) rfl fdX12_7 (q := 124) dX12_addBallot_121 rfl rfl ?_
  refine zr_iconst (q := 125) dX12_addBallot_124 rfl (z_in_of rfl) ?_
  refine zr_dup2 (q := 126) dX12_addBallot_125 rfl (Or.inl rfl) (Or.inr rfl) ?_
  refine zf_iald (v := n) (by first | assumption | exact k518 | exact k519 | exact k520 | exact k521 | exact k522 | exact k523 | exact k524 | exact k525 | exact k526 | exact k527 | exact k528 | exact k510 | exact k512 | exact k515 | exact k516 | exact k507 | exact k509 | exact k135 | exact k489 | exact k529 | exact k530) (by rw [z_up_sl (by omega), z_up_sl (by omega), z_up_sl (by omega)]; exact hn) (q := 127) dX12_addBallot_126 rfl (by omega) (by omega) ?_
  refine zr_iconst (q := 128) dX12_addBallot_127 rfl (z_in_of rfl) ?_
  refine zr_iadd (q := 129) dX12_addBallot_128 rfl (fun hA hB => by unfold z_in at hA hB ⊢; omega) ?_
  refine zf_iast (by first | assumption | exact k518 | exact k519 | exact k520 | exact k521 | exact k522 | exact k523 | exact k524 | exact k525 | exact k526 | exact k527 | exact k528 | exact k510 | exact k512 | exact k515 | exact k516 | exact k507 | exact k509 | exact k135 | exact k489 | exact k529 | exact k530) (q := 130) dX12_addBallot_129 rfl (by omega) (by omega) ?_
  refine zp_al0 (q := 131) dX12_addBallot_130 rfl ?_
  refine zf_getG (v := 518) 0 (k517) (H.1) rfl fdX12_7 (q := 134) dX12_addBallot_131 rfl rfl ?_
  refine zr_iconst (q := 135) dX12_addBallot_134 rfl (z_in_of rfl) ?_
  refine zf_iald (v := n + 1) (by first | assumption | exact k518 | exact k519 | exact k520 | exact k521 | exact k522 | exact k523 | exact k524 | exact k525 | exact k526 | exact k527 | exact k528 | exact k510 | exact k512 | exact k515 | exact k516 | exact k507 | exact k509 | exact k135 | exact k489 | exact k529 | exact k530) (z_up_eq) (q := 136) dX12_addBallot_135 rfl (by omega) (by omega) ?_
  refine zr_iconst (q := 137) dX12_addBallot_136 rfl (z_in_of rfl) ?_
  refine zr_isub (q := 138) dX12_addBallot_137 rfl (fun hA hB => by unfold z_in at hA hB ⊢; omega) ?_
  refine zr_ireturn dX12_addBallot_138 rfl (z_fit_i _) ?_
  rw [show n + 1 - 1 = n by omega]
  exact hQ
theorem s_X12_addBallot (H : zHm M) (hG : zWF (M 518)) (h5 : 0 ≤ M 517 5 ∧ M 517 5 ≤ 8) {x f : Int} (hx : 1 ≤ x ∧ x ≤ 99) (hf : 0 ≤ f ∧ f < M 518 0) (hn8 : M 518 1 < 20) : z_Call mX12_addBallot zF [(1, 517), (0, x), (0, f)] M (zmA (M 518 1) (gBal (M 518) x f) M) := by
  have hn := hG.n
  refine z_enter (k := 2) rfl rfl rfl ?_
  refine zp_al0 (q := 1) dX12_addBallot_0 rfl ?_
  refine zp_al0 (q := 2) dX12_addBallot_1 rfl ?_
  refine zp_il2 (q := 3) dX12_addBallot_2 rfl ?_
  refine zf_callV1 (k517) (s_X12_isWind H hG.w) mtX12_isWind wiX12_isWind weX12_isWind wlX12_74 (q := 6) dX12_addBallot_3 rfl rfl rfl rfl rfl rfl rfl (fun r S9 M9 h8 hP => ?_) (fun k S9 M9 hP => (z_no hP.1 rfl).elim)
  obtain ⟨rfl, rfl, h9⟩ := hP
  subst M9
  rw [if_pos hf]
  refine zr_if_ne (q := 13) (q2 := 9) dX12_addBallot_6 (by decide) rfl (fun h6 => ?_) (fun h6 => ?_)
  · refine zp_il1 (q := 14) dX12_addBallot_13 rfl ?_
    refine zp_callS1 (s_X12_isWeight) mtX12_isWeight wtX12_isWeight wlX12_98 (q := 17) dX12_addBallot_14 rfl rfl rfl rfl rfl (fun r S9 M9 h8 hP => ?_) (fun k S9 M9 hP => (z_no hP.1 rfl).elim)
    obtain ⟨rfl, rfl, h9⟩ := hP
    subst M9
    rw [if_pos hx]
    refine zr_if_ne (q := 24) (q2 := 20) dX12_addBallot_17 (by decide) rfl (fun h17 => ?_) (fun h17 => ?_)
    · refine zp_al0 (q := 25) dX12_addBallot_24 rfl ?_
      refine zf_getG (v := 518) 0 (k517) (H.1) rfl fdX12_7 (q := 28) dX12_addBallot_25 rfl rfl ?_
      refine zr_iconst (q := 29) dX12_addBallot_28 rfl (z_in_of rfl) ?_
      refine zf_iald (v := _) (by first | assumption | exact k518 | exact k519 | exact k520 | exact k521 | exact k522 | exact k523 | exact k524 | exact k525 | exact k526 | exact k527 | exact k528 | exact k510 | exact k512 | exact k515 | exact k516 | exact k507 | exact k509 | exact k135 | exact k489 | exact k529 | exact k530) (rfl) (q := 30) dX12_addBallot_29 rfl (by omega) (by omega) ?_
      refine zr_bipush (q := 32) dX12_addBallot_30 rfl (z_in_of rfl) (by decide +kernel) ?_
      refine zr_icmp_ne (q := 39) (q2 := 35) dX12_addBallot_32 (by decide) rfl (fun h32 => ?_) (fun h32 => ?_)
      · refine zr_iconst (q := 40) dX12_addBallot_39 rfl (z_in_of rfl) ?_
        refine zf_callV1 (k517) (s_X12_fails) mtX12_fails wiX12_fails weX12_fails wlX12_77 (q := 43) dX12_addBallot_40 rfl rfl rfl rfl rfl rfl rfl (fun r S9 M9 h8 hP => ?_) (fun k S9 M9 hP => (z_no hP.1 rfl).elim)
        obtain ⟨rfl, rfl, h9⟩ := hP
        subst M9
        refine zr_if_eq (q := 48) (q2 := 46) dX12_addBallot_43 (by decide) rfl (fun h43 => ?_) (fun h43 => ?_)
        · refine zp_al0 (q := 49) dX12_addBallot_48 rfl ?_
          refine zp_al0 (q := 50) dX12_addBallot_49 rfl ?_
          refine zf_getG (v := 518) 0 (k517) (H.1) rfl fdX12_7 (q := 53) dX12_addBallot_50 rfl rfl ?_
          refine zf_callV1 (k517) (s_X12_keeps (u := 518) H.c k518 (by decide) (by decide) h5) mtX12_keeps wiX12_keeps weX12_keeps wlX12_80 (q := 56) dX12_addBallot_53 rfl rfl rfl rfl rfl rfl rfl (fun r S9 M9 h8 hP => ?_) (fun k S9 M9 hP => (z_no hP.1 rfl).elim)
          obtain ⟨rfl, rfl, x1, x2, x3, x4⟩ := hP
          have H9 := H.c.k x2
          have e8 : M9 518 = M 518 := x1 518 (by decide) (by decide)
          refine zr_bipush (q := 58) dX12_addBallot_56 rfl (z_in_of rfl) (by decide +kernel) ?_
          refine zr_bipush (q := 60) dX12_addBallot_58 rfl (z_in_of rfl) (by decide +kernel) ?_
          refine zp_al0 (q := 61) dX12_addBallot_60 rfl ?_
          refine zf_getG (v := 518) 0 (k517) (H9.1) rfl fdX12_7 (q := 64) dX12_addBallot_61 rfl rfl ?_
          refine zr_iconst (q := 65) dX12_addBallot_64 rfl (z_in_of rfl) ?_
          refine zf_iald (v := M 518 1) (by first | assumption | exact k518 | exact k519 | exact k520 | exact k521 | exact k522 | exact k523 | exact k524 | exact k525 | exact k526 | exact k527 | exact k528 | exact k510 | exact k512 | exact k515 | exact k516 | exact k507 | exact k509 | exact k135 | exact k489 | exact k529 | exact k530) (by rw [e8]) (q := 66) dX12_addBallot_65 rfl (by omega) (by omega) ?_
          refine zr_imul (q := 67) dX12_addBallot_66 rfl (fun hA hB => by unfold z_in at hA hB ⊢; omega) ?_
          refine zr_iadd (q := 68) dX12_addBallot_67 rfl (fun hA hB => by unfold z_in at hA hB ⊢; omega) ?_
          refine zp_is3 (q := 69) dX12_addBallot_68 rfl rfl rfl ?_
          refine zr_iconst (q := 70) dX12_addBallot_69 rfl (z_in_of rfl) ?_
          refine zp_is4 (q := 72) dX12_addBallot_70 rfl rfl rfl ?_
          have e := s_X12_addBallot_k H9 (x := x) (f := f) (p := 20 + 7 * M 518 1) (by omega) (by omega) (s_X12_addBallot_t (bc := mX12_addBallot.2.2.2.2.2.1) (bs := mX12_addBallot.2.2.2.2.2.2.1) (Q := zmA (M 518 1) (gBal (M 518) x f) M) (H9.of (fun j _ _ _ _ _ => congrFun (zFil_ne (by decide)) j)) (by rw [zFil_out (by omega), e8]) ⟨hn.1, hn8⟩ ⟨rfl, rfl, z_mF (M1 := M9) (fun z a b => (x1 z a b).trans (z_up_ne a)) (fun j a b => (x2 j a b).trans (z_up_sl b)) (fun z a => by rw [z_up_ne a, z_up_ne a, z_up_ne a, z_up_ne a, zFil_ne a]), by rw [z_up_ne (by decide), z_up_ne (by decide), z_up_ne (by decide), z_up_ne (by decide), zFil_ne (by decide)]; exact x3, z_mK x4 (fun z a => by rw [z_up_ne a, z_up_ne a, z_up_ne a, z_up_ne a, zFil_ne a]), by
            funext j
            unfold z_up zFil gBal
            rw [e8]
            by_cases y1 : j = 1
            · rw [if_pos ⟨rfl, y1⟩, if_pos y1]
            · rw [if_neg (fun c => y1 c.2), if_neg y1]
              by_cases y2 : 20 + 7 * M 518 1 ≤ j ∧ j < 27 + 7 * M 518 1
              · rw [if_pos y2]
                by_cases z2 : j = 20 + 7 * M 518 1 + 2
                · rw [if_pos ⟨rfl, z2⟩, if_neg (by omega), if_neg (by omega), if_pos z2]
                · rw [if_neg (fun c => z2 c.2)]
                  by_cases z1 : j = 20 + 7 * M 518 1 + 1
                  · rw [if_pos ⟨rfl, z1⟩, if_neg (by omega), if_pos z1]
                  · rw [if_neg (fun c => z1 c.2)]
                    by_cases z0 : j = 20 + 7 * M 518 1
                    · rw [if_pos ⟨rfl, z0⟩, if_pos z0]
                    · rw [if_neg (fun c => z0 c.2), if_pos ⟨rfl, y2.1, by omega⟩, if_neg z0, if_neg z1, if_neg z2]
              · rw [if_neg y2, if_neg (by omega), if_neg (by omega), if_neg (by omega), if_neg (by omega)]⟩) 8 0 (by omega) (by omega) (by omega)
          rw [zFil_0] at e
          exact e
        · exact absurd h43 (by decide)
      · exact absurd h32 (by omega)
    · exact absurd (by decide) h17
  · exact absurd (by decide) h6
theorem s_X12_addBallot_x (H : zHm M) (hG : zWF (M 518)) {x f : Int} (hf : ¬ (0 ≤ f ∧ f < M 518 0)) : z_Call mX12_addBallot zF [(1, 517), (0, x), (0, f)] M (zpF 0 0 (z_up M 517 7 1)) := by
  refine z_enter (k := 2) rfl rfl rfl ?_
  refine zp_al0 (q := 1) dX12_addBallot_0 rfl ?_
  refine zp_al0 (q := 2) dX12_addBallot_1 rfl ?_
  refine zp_il2 (q := 3) dX12_addBallot_2 rfl ?_
  refine zf_callV1 (k517) (s_X12_isWind H hG.w) mtX12_isWind wiX12_isWind weX12_isWind wlX12_74 (q := 6) dX12_addBallot_3 rfl rfl rfl rfl rfl rfl rfl (fun r S9 M9 h8 hP => ?_) (fun k S9 M9 hP => (z_no hP.1 rfl).elim)
  obtain ⟨rfl, rfl, h9⟩ := hP
  subst M9
  rw [if_neg hf]
  refine zr_if_ne (q := 13) (q2 := 9) dX12_addBallot_6 (by decide) rfl (fun h6 => ?_) (fun h6 => ?_)
  · exact absurd rfl h6
  · refine zr_iconst (q := 10) dX12_addBallot_9 rfl (z_in_of rfl) ?_
    refine zr_goto (q := 40) dX12_addBallot_10 (by decide) ?_
    refine zf_callV1 (k517) (s_X12_fails) mtX12_fails wiX12_fails weX12_fails wlX12_77 (q := 43) dX12_addBallot_40 rfl rfl rfl rfl rfl rfl rfl (fun r S9 M9 h8 hP => ?_) (fun k S9 M9 hP => (z_no hP.1 rfl).elim)
    obtain ⟨rfl, rfl, h9⟩ := hP
    subst M9
    refine zr_if_eq (q := 48) (q2 := 46) dX12_addBallot_43 (by decide) rfl (fun h43 => ?_) (fun h43 => ?_)
    · exact absurd h43 (by decide)
    · refine zr_iconst (q := 47) dX12_addBallot_46 rfl (z_in_of rfl) ?_
      refine zr_ireturn dX12_addBallot_47 rfl (z_fit_i _) ?_
      exact ⟨rfl, rfl, rfl⟩
theorem s_X12_addBallot_y (H : zHm M) (hG : zWF (M 518)) {x f : Int} (hf : 0 ≤ f ∧ f < M 518 0) (hx : ¬ (1 ≤ x ∧ x ≤ 99)) : z_Call mX12_addBallot zF [(1, 517), (0, x), (0, f)] M (zpF 0 0 (z_up M 517 7 2)) := by
  refine z_enter (k := 2) rfl rfl rfl ?_
  refine zp_al0 (q := 1) dX12_addBallot_0 rfl ?_
  refine zp_al0 (q := 2) dX12_addBallot_1 rfl ?_
  refine zp_il2 (q := 3) dX12_addBallot_2 rfl ?_
  refine zf_callV1 (k517) (s_X12_isWind H hG.w) mtX12_isWind wiX12_isWind weX12_isWind wlX12_74 (q := 6) dX12_addBallot_3 rfl rfl rfl rfl rfl rfl rfl (fun r S9 M9 h8 hP => ?_) (fun k S9 M9 hP => (z_no hP.1 rfl).elim)
  obtain ⟨rfl, rfl, h9⟩ := hP
  subst M9
  rw [if_pos hf]
  refine zr_if_ne (q := 13) (q2 := 9) dX12_addBallot_6 (by decide) rfl (fun h6 => ?_) (fun h6 => ?_)
  · refine zp_il1 (q := 14) dX12_addBallot_13 rfl ?_
    refine zp_callS1 (s_X12_isWeight) mtX12_isWeight wtX12_isWeight wlX12_98 (q := 17) dX12_addBallot_14 rfl rfl rfl rfl rfl (fun r S9 M9 h8 hP => ?_) (fun k S9 M9 hP => (z_no hP.1 rfl).elim)
    obtain ⟨rfl, rfl, h9⟩ := hP
    subst M9
    rw [if_neg hx]
    refine zr_if_ne (q := 24) (q2 := 20) dX12_addBallot_17 (by decide) rfl (fun h17 => ?_) (fun h17 => ?_)
    · exact absurd rfl h17
    · refine zr_iconst (q := 21) dX12_addBallot_20 rfl (z_in_of rfl) ?_
      refine zr_goto (q := 40) dX12_addBallot_21 (by decide) ?_
      refine zf_callV1 (k517) (s_X12_fails) mtX12_fails wiX12_fails weX12_fails wlX12_77 (q := 43) dX12_addBallot_40 rfl rfl rfl rfl rfl rfl rfl (fun r S9 M9 h8 hP => ?_) (fun k S9 M9 hP => (z_no hP.1 rfl).elim)
      obtain ⟨rfl, rfl, h9⟩ := hP
      subst M9
      refine zr_if_eq (q := 48) (q2 := 46) dX12_addBallot_43 (by decide) rfl (fun h43 => ?_) (fun h43 => ?_)
      · exact absurd h43 (by decide)
      · refine zr_iconst (q := 47) dX12_addBallot_46 rfl (z_in_of rfl) ?_
        refine zr_ireturn dX12_addBallot_47 rfl (z_fit_i _) ?_
        exact ⟨rfl, rfl, rfl⟩
  · exact absurd (by decide) h6
theorem s_X12_addBallot_z (H : zHm M) (hG : zWF (M 518)) {x f : Int} (hf : 0 ≤ f ∧ f < M 518 0) (hx : 1 ≤ x ∧ x ≤ 99) (h8 : ¬ M 518 1 < 20) : z_Call mX12_addBallot zF [(1, 517), (0, x), (0, f)] M (zpF 0 0 (z_up M 517 7 3)) := by
  have hn := hG.n
  refine z_enter (k := 2) rfl rfl rfl ?_
  refine zp_al0 (q := 1) dX12_addBallot_0 rfl ?_
  refine zp_al0 (q := 2) dX12_addBallot_1 rfl ?_
  refine zp_il2 (q := 3) dX12_addBallot_2 rfl ?_
  refine zf_callV1 (k517) (s_X12_isWind H hG.w) mtX12_isWind wiX12_isWind weX12_isWind wlX12_74 (q := 6) dX12_addBallot_3 rfl rfl rfl rfl rfl rfl rfl (fun r S9 M9 h8 hP => ?_) (fun k S9 M9 hP => (z_no hP.1 rfl).elim)
  obtain ⟨rfl, rfl, h9⟩ := hP
  subst M9
  rw [if_pos hf]
  refine zr_if_ne (q := 13) (q2 := 9) dX12_addBallot_6 (by decide) rfl (fun h6 => ?_) (fun h6 => ?_)
  · refine zp_il1 (q := 14) dX12_addBallot_13 rfl ?_
    refine zp_callS1 (s_X12_isWeight) mtX12_isWeight wtX12_isWeight wlX12_98 (q := 17) dX12_addBallot_14 rfl rfl rfl rfl rfl (fun r S9 M9 h8 hP => ?_) (fun k S9 M9 hP => (z_no hP.1 rfl).elim)
    obtain ⟨rfl, rfl, h9⟩ := hP
    subst M9
    rw [if_pos hx]
    refine zr_if_ne (q := 24) (q2 := 20) dX12_addBallot_17 (by decide) rfl (fun h17 => ?_) (fun h17 => ?_)
    · refine zp_al0 (q := 25) dX12_addBallot_24 rfl ?_
      refine zf_getG (v := 518) 0 (k517) (H.1) rfl fdX12_7 (q := 28) dX12_addBallot_25 rfl rfl ?_
      refine zr_iconst (q := 29) dX12_addBallot_28 rfl (z_in_of rfl) ?_
      refine zf_iald (v := _) (by first | assumption | exact k518 | exact k519 | exact k520 | exact k521 | exact k522 | exact k523 | exact k524 | exact k525 | exact k526 | exact k527 | exact k528 | exact k510 | exact k512 | exact k515 | exact k516 | exact k507 | exact k509 | exact k135 | exact k489 | exact k529 | exact k530) (rfl) (q := 30) dX12_addBallot_29 rfl (by omega) (by omega) ?_
      refine zr_bipush (q := 32) dX12_addBallot_30 rfl (z_in_of rfl) (by decide +kernel) ?_
      refine zr_icmp_ne (q := 39) (q2 := 35) dX12_addBallot_32 (by decide) rfl (fun h32 => ?_) (fun h32 => ?_)
      · exact absurd h32 (by omega)
      · refine zr_iconst (q := 36) dX12_addBallot_35 rfl (z_in_of rfl) ?_
        refine zr_goto (q := 40) dX12_addBallot_36 (by decide) ?_
        refine zf_callV1 (k517) (s_X12_fails) mtX12_fails wiX12_fails weX12_fails wlX12_77 (q := 43) dX12_addBallot_40 rfl rfl rfl rfl rfl rfl rfl (fun r S9 M9 h8 hP => ?_) (fun k S9 M9 hP => (z_no hP.1 rfl).elim)
        obtain ⟨rfl, rfl, h9⟩ := hP
        subst M9
        refine zr_if_eq (q := 48) (q2 := 46) dX12_addBallot_43 (by decide) rfl (fun h43 => ?_) (fun h43 => ?_)
        · exact absurd h43 (by decide)
        · refine zr_iconst (q := 47) dX12_addBallot_46 rfl (z_in_of rfl) ?_
          refine zr_ireturn dX12_addBallot_47 rfl (z_fit_i _) ?_
          exact ⟨rfl, rfl, rfl⟩
    · exact absurd (by decide) h17
  · exact absurd (by decide) h6
theorem s_X12_rank (H : zHm M) (hG : zWF (M 518)) (h5 : 0 ≤ M 517 5 ∧ M 517 5 ≤ 8) {b w : Int} (hb : 0 ≤ b ∧ b < M 518 1) (hw : 0 ≤ w ∧ w < M 518 0) (hp : zPl (M 518) b w = -1) (hs : M 518 (20 + 7 * b + 1) < 5) : z_Call mX12_rank zF [(1, 517), (0, b), (0, w)] M (zmA (M 518 (20 + 7 * b + 1)) (gRank (M 518) b w) M) := by
  have hn := hG.n
  have hz := hG.sz hb.1 hb.2
  refine z_enter (k := 1) rfl rfl rfl ?_
  refine zp_al0 (q := 1) dX12_rank_0 rfl ?_
  refine zp_al0 (q := 2) dX12_rank_1 rfl ?_
  refine zp_il1 (q := 3) dX12_rank_2 rfl ?_
  refine zf_callV1 (k517) (s_X12_isBallot H hG) mtX12_isBallot wiX12_isBallot weX12_isBallot wlX12_95 (q := 6) dX12_rank_3 rfl rfl rfl rfl rfl rfl rfl (fun r S9 M9 h8 hP => ?_) (fun k S9 M9 hP => (z_no hP.1 rfl).elim)
  obtain ⟨rfl, rfl, h9⟩ := hP
  subst M9
  rw [if_pos hb]
  refine zr_if_eq (q := 17) (q2 := 9) dX12_rank_6 (by decide) rfl (fun h6 => ?_) (fun h6 => ?_)
  · exact absurd h6 (by decide)
  · refine zp_al0 (q := 10) dX12_rank_9 rfl ?_
    refine zp_il2 (q := 11) dX12_rank_10 rfl ?_
    refine zf_callV1 (k517) (s_X12_isWind H hG.w) mtX12_isWind wiX12_isWind weX12_isWind wlX12_74 (q := 14) dX12_rank_11 rfl rfl rfl rfl rfl rfl rfl (fun r S9 M9 h8 hP => ?_) (fun k S9 M9 hP => (z_no hP.1 rfl).elim)
    obtain ⟨rfl, rfl, h9⟩ := hP
    subst M9
    rw [if_pos hw]
    refine zr_if_ne (q := 21) (q2 := 17) dX12_rank_14 (by decide) rfl (fun h14 => ?_) (fun h14 => ?_)
    · refine zp_al0 (q := 22) dX12_rank_21 rfl ?_
      refine zp_il1 (q := 23) dX12_rank_22 rfl ?_
      refine zp_il2 (q := 24) dX12_rank_23 rfl ?_
      refine zf_callV2 (k517) (s_X12_ranked H hG hb.1 hb.2) mtX12_ranked wiX12_ranked weX12_ranked wlX12_101 (q := 27) dX12_rank_24 rfl rfl rfl rfl rfl rfl rfl (fun r S9 M9 h8 hP => ?_) (fun k S9 M9 hP => (z_no hP.1 rfl).elim)
      obtain ⟨rfl, rfl, h9⟩ := hP
      subst M9
      refine zr_if_lt (q := 34) (q2 := 30) dX12_rank_27 (by decide) rfl (fun h27 => ?_) (fun h27 => ?_)
      · refine zp_al0 (q := 35) dX12_rank_34 rfl ?_
        refine zp_il1 (q := 36) dX12_rank_35 rfl ?_
        refine zr_iconst (q := 37) dX12_rank_36 rfl (z_in_of rfl) ?_
        refine zf_callV2 (k517) (s_X12_of H hb.1 (by omega) (by omega) (by omega)) mtX12_of wiX12_of weX12_of wlX12_91 (q := 40) dX12_rank_37 rfl rfl rfl rfl rfl rfl rfl (fun r S9 M9 h8 hP => ?_) (fun k S9 M9 hP => (z_no hP.1 rfl).elim)
        obtain ⟨rfl, rfl, h9⟩ := hP
        subst M9
        refine zr_iconst (q := 41) dX12_rank_40 rfl (z_in_of rfl) ?_
        refine zr_icmp_ne (q := 48) (q2 := 44) dX12_rank_41 (by decide) rfl (fun h41 => ?_) (fun h41 => ?_)
        · refine zr_iconst (q := 49) dX12_rank_48 rfl (z_in_of rfl) ?_
          refine zf_callV1 (k517) (s_X12_fails) mtX12_fails wiX12_fails weX12_fails wlX12_77 (q := 52) dX12_rank_49 rfl rfl rfl rfl rfl rfl rfl (fun r S9 M9 h8 hP => ?_) (fun k S9 M9 hP => (z_no hP.1 rfl).elim)
          obtain ⟨rfl, rfl, h9⟩ := hP
          subst M9
          refine zr_if_eq (q := 57) (q2 := 55) dX12_rank_52 (by decide) rfl (fun h52 => ?_) (fun h52 => ?_)
          · refine zp_al0 (q := 58) dX12_rank_57 rfl ?_
            refine zp_al0 (q := 59) dX12_rank_58 rfl ?_
            refine zf_getG (v := 518) 0 (k517) (H.1) rfl fdX12_7 (q := 62) dX12_rank_59 rfl rfl ?_
            refine zf_callV1 (k517) (s_X12_keeps (u := 518) H.c k518 (by decide) (by decide) h5) mtX12_keeps wiX12_keeps weX12_keeps wlX12_80 (q := 65) dX12_rank_62 rfl rfl rfl rfl rfl rfl rfl (fun r S9 M9 h8 hP => ?_) (fun k S9 M9 hP => (z_no hP.1 rfl).elim)
            obtain ⟨rfl, rfl, x1, x2, x3, x4⟩ := hP
            have H9 := H.c.k x2
            have e8 : M9 518 = M 518 := x1 518 (by decide) (by decide)
            refine zp_al0 (q := 66) dX12_rank_65 rfl ?_
            refine zp_il1 (q := 67) dX12_rank_66 rfl ?_
            refine zr_iconst (q := 68) dX12_rank_67 rfl (z_in_of rfl) ?_
            refine zf_callV2 (k517) (s_X12_of H9 hb.1 (by omega) (by omega) (by omega)) mtX12_of wiX12_of weX12_of wlX12_91 (q := 71) dX12_rank_68 rfl rfl rfl rfl rfl rfl rfl (fun r S9 M9 h8 hP => ?_) (fun k S9 M9 hP => (z_no hP.1 rfl).elim)
            obtain ⟨rfl, rfl, h9⟩ := hP
            subst h9
            rw [e8]
            refine zp_is3 (q := 72) dX12_rank_71 rfl rfl rfl ?_
            refine zp_al0 (q := 73) dX12_rank_72 rfl ?_
            refine zf_getG (v := 518) 0 (k517) (H9.1) rfl fdX12_7 (q := 76) dX12_rank_73 rfl rfl ?_
            refine zr_bipush (q := 78) dX12_rank_76 rfl (z_in_of rfl) (by decide +kernel) ?_
            refine zr_bipush (q := 80) dX12_rank_78 rfl (z_in_of rfl) (by decide +kernel) ?_
            refine zp_il1 (q := 81) dX12_rank_80 rfl ?_
            refine zr_imul (q := 82) dX12_rank_81 rfl (fun hA hB => by unfold z_in at hA hB ⊢; omega) ?_
            refine zr_iadd (q := 83) dX12_rank_82 rfl (fun hA hB => by unfold z_in at hA hB ⊢; omega) ?_
            refine zr_iconst (q := 84) dX12_rank_83 rfl (z_in_of rfl) ?_
            refine zr_iadd (q := 85) dX12_rank_84 rfl (fun hA hB => by unfold z_in at hA hB ⊢; omega) ?_
            refine zp_il3 (q := 86) dX12_rank_85 rfl ?_
            refine zr_iadd (q := 87) dX12_rank_86 rfl (fun hA hB => by unfold z_in at hA hB ⊢; omega) ?_
            refine zp_il2 (q := 88) dX12_rank_87 rfl ?_
            refine zf_iast (by first | assumption | exact k518 | exact k519 | exact k520 | exact k521 | exact k522 | exact k523 | exact k524 | exact k525 | exact k526 | exact k527 | exact k528 | exact k510 | exact k512 | exact k515 | exact k516 | exact k507 | exact k509 | exact k135 | exact k489 | exact k529 | exact k530) (q := 89) dX12_rank_88 rfl (by omega) (by omega) ?_
            refine zp_al0 (q := 90) dX12_rank_89 rfl ?_
            refine zf_getG (v := 518) 0 (k517) (by rw [z_up_ne (by decide)]; exact H9.1) rfl fdX12_7 (q := 93) dX12_rank_90 rfl rfl ?_
            refine zr_bipush (q := 95) dX12_rank_93 rfl (z_in_of rfl) (by decide +kernel) ?_
            refine zr_bipush (q := 97) dX12_rank_95 rfl (z_in_of rfl) (by decide +kernel) ?_
            refine zp_il1 (q := 98) dX12_rank_97 rfl ?_
            refine zr_imul (q := 99) dX12_rank_98 rfl (fun hA hB => by unfold z_in at hA hB ⊢; omega) ?_
            refine zr_iadd (q := 100) dX12_rank_99 rfl (fun hA hB => by unfold z_in at hA hB ⊢; omega) ?_
            refine zr_iconst (q := 101) dX12_rank_100 rfl (z_in_of rfl) ?_
            refine zr_iadd (q := 102) dX12_rank_101 rfl (fun hA hB => by unfold z_in at hA hB ⊢; omega) ?_
            refine zp_il3 (q := 103) dX12_rank_102 rfl ?_
            refine zr_iconst (q := 104) dX12_rank_103 rfl (z_in_of rfl) ?_
            refine zr_iadd (q := 105) dX12_rank_104 rfl (fun hA hB => by unfold z_in at hA hB ⊢; omega) ?_
            refine zf_iast (by first | assumption | exact k518 | exact k519 | exact k520 | exact k521 | exact k522 | exact k523 | exact k524 | exact k525 | exact k526 | exact k527 | exact k528 | exact k510 | exact k512 | exact k515 | exact k516 | exact k507 | exact k509 | exact k135 | exact k489 | exact k529 | exact k530) (q := 106) dX12_rank_105 rfl (by omega) (by omega) ?_
            refine zp_il3 (q := 107) dX12_rank_106 rfl ?_
            refine zr_ireturn dX12_rank_107 rfl (z_fit_i _) ?_
            refine ⟨rfl, rfl, z_mF (fun z a b => (x1 z a b).trans (z_up_ne a)) (fun j a b => (x2 j a b).trans (z_up_sl b)) (fun z a => by rw [z_up_ne a, z_up_ne a]), by rw [z_up_ne (by decide), z_up_ne (by decide)]; exact x3, z_mK x4 (fun z a => by rw [z_up_ne a, z_up_ne a]), ?_⟩
            funext j
            unfold z_up gRank zSet
            rw [e8]
            by_cases e : j = 20 + 7 * b + 1
            · rw [if_pos ⟨rfl, e⟩, if_pos e]
            · rw [if_neg (fun c => e c.2), if_neg e]
              by_cases e2 : j = 20 + 7 * b + 2 + M 518 (20 + 7 * b + 1)
              · rw [if_pos ⟨rfl, e2⟩, if_pos e2]
              · rw [if_neg (fun c => e2 c.2), if_neg e2]
          · exact absurd h52 (by decide)
        · exact absurd h41 (by omega)
      · exact absurd (by rw [hp]; decide) h27
    · exact absurd (by decide) h14
theorem s_X12_rank_x (H : zHm M) (hG : zWF (M 518)) {b w : Int} (hb : ¬ (0 ≤ b ∧ b < M 518 1)) : z_Call mX12_rank zF [(1, 517), (0, b), (0, w)] M (zpF 0 0 (z_up M 517 7 1)) := by
  refine z_enter (k := 1) rfl rfl rfl ?_
  refine zp_al0 (q := 1) dX12_rank_0 rfl ?_
  refine zp_al0 (q := 2) dX12_rank_1 rfl ?_
  refine zp_il1 (q := 3) dX12_rank_2 rfl ?_
  refine zf_callV1 (k517) (s_X12_isBallot H hG) mtX12_isBallot wiX12_isBallot weX12_isBallot wlX12_95 (q := 6) dX12_rank_3 rfl rfl rfl rfl rfl rfl rfl (fun r S9 M9 h8 hP => ?_) (fun k S9 M9 hP => (z_no hP.1 rfl).elim)
  obtain ⟨rfl, rfl, h9⟩ := hP
  subst M9
  rw [if_neg hb]
  refine zr_if_eq (q := 17) (q2 := 9) dX12_rank_6 (by decide) rfl (fun h6 => ?_) (fun h6 => ?_)
  · refine zr_iconst (q := 18) dX12_rank_17 rfl (z_in_of rfl) ?_
    refine zr_goto (q := 49) dX12_rank_18 (by decide) ?_
    refine zf_callV1 (k517) (s_X12_fails) mtX12_fails wiX12_fails weX12_fails wlX12_77 (q := 52) dX12_rank_49 rfl rfl rfl rfl rfl rfl rfl (fun r S9 M9 h8 hP => ?_) (fun k S9 M9 hP => (z_no hP.1 rfl).elim)
    obtain ⟨rfl, rfl, h9⟩ := hP
    subst M9
    refine zr_if_eq (q := 57) (q2 := 55) dX12_rank_52 (by decide) rfl (fun h52 => ?_) (fun h52 => ?_)
    · exact absurd h52 (by decide)
    · refine zr_iconst (q := 56) dX12_rank_55 rfl (z_in_of rfl) ?_
      refine zr_ireturn dX12_rank_56 rfl (z_fit_i _) ?_
      exact ⟨rfl, rfl, rfl⟩
  · exact absurd rfl h6
theorem s_X12_rank_y (H : zHm M) (hG : zWF (M 518)) {b w : Int} (hb : 0 ≤ b ∧ b < M 518 1) (hw : ¬ (0 ≤ w ∧ w < M 518 0)) : z_Call mX12_rank zF [(1, 517), (0, b), (0, w)] M (zpF 0 0 (z_up M 517 7 1)) := by
  refine z_enter (k := 1) rfl rfl rfl ?_
  refine zp_al0 (q := 1) dX12_rank_0 rfl ?_
  refine zp_al0 (q := 2) dX12_rank_1 rfl ?_
  refine zp_il1 (q := 3) dX12_rank_2 rfl ?_
  refine zf_callV1 (k517) (s_X12_isBallot H hG) mtX12_isBallot wiX12_isBallot weX12_isBallot wlX12_95 (q := 6) dX12_rank_3 rfl rfl rfl rfl rfl rfl rfl (fun r S9 M9 h8 hP => ?_) (fun k S9 M9 hP => (z_no hP.1 rfl).elim)
  obtain ⟨rfl, rfl, h9⟩ := hP
  subst M9
  rw [if_pos hb]
  refine zr_if_eq (q := 17) (q2 := 9) dX12_rank_6 (by decide) rfl (fun h6 => ?_) (fun h6 => ?_)
  · exact absurd h6 (by decide)
  · refine zp_al0 (q := 10) dX12_rank_9 rfl ?_
    refine zp_il2 (q := 11) dX12_rank_10 rfl ?_
    refine zf_callV1 (k517) (s_X12_isWind H hG.w) mtX12_isWind wiX12_isWind weX12_isWind wlX12_74 (q := 14) dX12_rank_11 rfl rfl rfl rfl rfl rfl rfl (fun r S9 M9 h8 hP => ?_) (fun k S9 M9 hP => (z_no hP.1 rfl).elim)
    obtain ⟨rfl, rfl, h9⟩ := hP
    subst M9
    rw [if_neg hw]
    refine zr_if_ne (q := 21) (q2 := 17) dX12_rank_14 (by decide) rfl (fun h14 => ?_) (fun h14 => ?_)
    · exact absurd rfl h14
    · refine zr_iconst (q := 18) dX12_rank_17 rfl (z_in_of rfl) ?_
      refine zr_goto (q := 49) dX12_rank_18 (by decide) ?_
      refine zf_callV1 (k517) (s_X12_fails) mtX12_fails wiX12_fails weX12_fails wlX12_77 (q := 52) dX12_rank_49 rfl rfl rfl rfl rfl rfl rfl (fun r S9 M9 h8 hP => ?_) (fun k S9 M9 hP => (z_no hP.1 rfl).elim)
      obtain ⟨rfl, rfl, h9⟩ := hP
      subst M9
      refine zr_if_eq (q := 57) (q2 := 55) dX12_rank_52 (by decide) rfl (fun h52 => ?_) (fun h52 => ?_)
      · exact absurd h52 (by decide)
      · refine zr_iconst (q := 56) dX12_rank_55 rfl (z_in_of rfl) ?_
        refine zr_ireturn dX12_rank_56 rfl (z_fit_i _) ?_
        exact ⟨rfl, rfl, rfl⟩
theorem s_X12_rank_z (H : zHm M) (hG : zWF (M 518)) {b w : Int} (hb : 0 ≤ b ∧ b < M 518 1) (hw : 0 ≤ w ∧ w < M 518 0) (hp : zPl (M 518) b w ≠ -1) : z_Call mX12_rank zF [(1, 517), (0, b), (0, w)] M (zpF 0 0 (z_up M 517 7 2)) := by
  have hr := zPl_range hG hb.1 hb.2 w
  refine z_enter (k := 1) rfl rfl rfl ?_
  refine zp_al0 (q := 1) dX12_rank_0 rfl ?_
  refine zp_al0 (q := 2) dX12_rank_1 rfl ?_
  refine zp_il1 (q := 3) dX12_rank_2 rfl ?_
  refine zf_callV1 (k517) (s_X12_isBallot H hG) mtX12_isBallot wiX12_isBallot weX12_isBallot wlX12_95 (q := 6) dX12_rank_3 rfl rfl rfl rfl rfl rfl rfl (fun r S9 M9 h8 hP => ?_) (fun k S9 M9 hP => (z_no hP.1 rfl).elim)
  obtain ⟨rfl, rfl, h9⟩ := hP
  subst M9
  rw [if_pos hb]
  refine zr_if_eq (q := 17) (q2 := 9) dX12_rank_6 (by decide) rfl (fun h6 => ?_) (fun h6 => ?_)
  · exact absurd h6 (by decide)
  · refine zp_al0 (q := 10) dX12_rank_9 rfl ?_
    refine zp_il2 (q := 11) dX12_rank_10 rfl ?_
    refine zf_callV1 (k517) (s_X12_isWind H hG.w) mtX12_isWind wiX12_isWind weX12_isWind wlX12_74 (q := 14) dX12_rank_11 rfl rfl rfl rfl rfl rfl rfl (fun r S9 M9 h8 hP => ?_) (fun k S9 M9 hP => (z_no hP.1 rfl).elim)
    obtain ⟨rfl, rfl, h9⟩ := hP
    subst M9
    rw [if_pos hw]
    refine zr_if_ne (q := 21) (q2 := 17) dX12_rank_14 (by decide) rfl (fun h14 => ?_) (fun h14 => ?_)
    · refine zp_al0 (q := 22) dX12_rank_21 rfl ?_
      refine zp_il1 (q := 23) dX12_rank_22 rfl ?_
      refine zp_il2 (q := 24) dX12_rank_23 rfl ?_
      refine zf_callV2 (k517) (s_X12_ranked H hG hb.1 hb.2) mtX12_ranked wiX12_ranked weX12_ranked wlX12_101 (q := 27) dX12_rank_24 rfl rfl rfl rfl rfl rfl rfl (fun r S9 M9 h8 hP => ?_) (fun k S9 M9 hP => (z_no hP.1 rfl).elim)
      obtain ⟨rfl, rfl, h9⟩ := hP
      subst M9
      refine zr_if_lt (q := 34) (q2 := 30) dX12_rank_27 (by decide) rfl (fun h27 => ?_) (fun h27 => ?_)
      · exact absurd h27 (by omega)
      · refine zr_iconst (q := 31) dX12_rank_30 rfl (z_in_of rfl) ?_
        refine zr_goto (q := 49) dX12_rank_31 (by decide) ?_
        refine zf_callV1 (k517) (s_X12_fails) mtX12_fails wiX12_fails weX12_fails wlX12_77 (q := 52) dX12_rank_49 rfl rfl rfl rfl rfl rfl rfl (fun r S9 M9 h8 hP => ?_) (fun k S9 M9 hP => (z_no hP.1 rfl).elim)
        obtain ⟨rfl, rfl, h9⟩ := hP
        subst M9
        refine zr_if_eq (q := 57) (q2 := 55) dX12_rank_52 (by decide) rfl (fun h52 => ?_) (fun h52 => ?_)
        · exact absurd h52 (by decide)
        · refine zr_iconst (q := 56) dX12_rank_55 rfl (z_in_of rfl) ?_
          refine zr_ireturn dX12_rank_56 rfl (z_fit_i _) ?_
          exact ⟨rfl, rfl, rfl⟩
    · exact absurd (by decide) h14
theorem s_X12_rank_u (H : zHm M) (hG : zWF (M 518)) {b w : Int} (hb : 0 ≤ b ∧ b < M 518 1) (hw : 0 ≤ w ∧ w < M 518 0) (hp : zPl (M 518) b w = -1) (hs : ¬ M 518 (20 + 7 * b + 1) < 5) : z_Call mX12_rank zF [(1, 517), (0, b), (0, w)] M (zpF 0 0 (z_up M 517 7 3)) := by
  have hn := hG.n
  have hz := hG.sz hb.1 hb.2
  refine z_enter (k := 1) rfl rfl rfl ?_
  refine zp_al0 (q := 1) dX12_rank_0 rfl ?_
  refine zp_al0 (q := 2) dX12_rank_1 rfl ?_
  refine zp_il1 (q := 3) dX12_rank_2 rfl ?_
  refine zf_callV1 (k517) (s_X12_isBallot H hG) mtX12_isBallot wiX12_isBallot weX12_isBallot wlX12_95 (q := 6) dX12_rank_3 rfl rfl rfl rfl rfl rfl rfl (fun r S9 M9 h8 hP => ?_) (fun k S9 M9 hP => (z_no hP.1 rfl).elim)
  obtain ⟨rfl, rfl, h9⟩ := hP
  subst M9
  rw [if_pos hb]
  refine zr_if_eq (q := 17) (q2 := 9) dX12_rank_6 (by decide) rfl (fun h6 => ?_) (fun h6 => ?_)
  · exact absurd h6 (by decide)
  · refine zp_al0 (q := 10) dX12_rank_9 rfl ?_
    refine zp_il2 (q := 11) dX12_rank_10 rfl ?_
    refine zf_callV1 (k517) (s_X12_isWind H hG.w) mtX12_isWind wiX12_isWind weX12_isWind wlX12_74 (q := 14) dX12_rank_11 rfl rfl rfl rfl rfl rfl rfl (fun r S9 M9 h8 hP => ?_) (fun k S9 M9 hP => (z_no hP.1 rfl).elim)
    obtain ⟨rfl, rfl, h9⟩ := hP
    subst M9
    rw [if_pos hw]
    refine zr_if_ne (q := 21) (q2 := 17) dX12_rank_14 (by decide) rfl (fun h14 => ?_) (fun h14 => ?_)
    · refine zp_al0 (q := 22) dX12_rank_21 rfl ?_
      refine zp_il1 (q := 23) dX12_rank_22 rfl ?_
      refine zp_il2 (q := 24) dX12_rank_23 rfl ?_
      refine zf_callV2 (k517) (s_X12_ranked H hG hb.1 hb.2) mtX12_ranked wiX12_ranked weX12_ranked wlX12_101 (q := 27) dX12_rank_24 rfl rfl rfl rfl rfl rfl rfl (fun r S9 M9 h8 hP => ?_) (fun k S9 M9 hP => (z_no hP.1 rfl).elim)
      obtain ⟨rfl, rfl, h9⟩ := hP
      subst M9
      refine zr_if_lt (q := 34) (q2 := 30) dX12_rank_27 (by decide) rfl (fun h27 => ?_) (fun h27 => ?_)
      · refine zp_al0 (q := 35) dX12_rank_34 rfl ?_
        refine zp_il1 (q := 36) dX12_rank_35 rfl ?_
        refine zr_iconst (q := 37) dX12_rank_36 rfl (z_in_of rfl) ?_
        refine zf_callV2 (k517) (s_X12_of H hb.1 (by omega) (by omega) (by omega)) mtX12_of wiX12_of weX12_of wlX12_91 (q := 40) dX12_rank_37 rfl rfl rfl rfl rfl rfl rfl (fun r S9 M9 h8 hP => ?_) (fun k S9 M9 hP => (z_no hP.1 rfl).elim)
        obtain ⟨rfl, rfl, h9⟩ := hP
        subst M9
        refine zr_iconst (q := 41) dX12_rank_40 rfl (z_in_of rfl) ?_
        refine zr_icmp_ne (q := 48) (q2 := 44) dX12_rank_41 (by decide) rfl (fun h41 => ?_) (fun h41 => ?_)
        · exact absurd h41 (by omega)
        · refine zr_iconst (q := 45) dX12_rank_44 rfl (z_in_of rfl) ?_
          refine zr_goto (q := 49) dX12_rank_45 (by decide) ?_
          refine zf_callV1 (k517) (s_X12_fails) mtX12_fails wiX12_fails weX12_fails wlX12_77 (q := 52) dX12_rank_49 rfl rfl rfl rfl rfl rfl rfl (fun r S9 M9 h8 hP => ?_) (fun k S9 M9 hP => (z_no hP.1 rfl).elim)
          obtain ⟨rfl, rfl, h9⟩ := hP
          subst M9
          refine zr_if_eq (q := 57) (q2 := 55) dX12_rank_52 (by decide) rfl (fun h52 => ?_) (fun h52 => ?_)
          · exact absurd h52 (by decide)
          · refine zr_iconst (q := 56) dX12_rank_55 rfl (z_in_of rfl) ?_
            refine zr_ireturn dX12_rank_56 rfl (z_fit_i _) ?_
            exact ⟨rfl, rfl, rfl⟩
      · exact absurd (by rw [hp]; decide) h27
    · exact absurd (by decide) h14
theorem s_X12_recount (H : zHm M) (hG : zWF (M 518)) (h5 : 0 ≤ M 517 5 ∧ M 517 5 ≤ 8) {b x : Int} (hb : 0 ≤ b ∧ b < M 518 1) (hx : 1 ≤ x ∧ x ≤ 99) : z_Call mX12_recount zF [(1, 517), (0, b), (0, x)] M (zmA (M 518 (20 + 7 * b)) (gRec (M 518) b x) M) := by
  have hn := hG.n
  refine z_enter (k := 1) rfl rfl rfl ?_
  refine zp_al0 (q := 1) dX12_recount_0 rfl ?_
  refine zp_al0 (q := 2) dX12_recount_1 rfl ?_
  refine zp_il1 (q := 3) dX12_recount_2 rfl ?_
  refine zf_callV1 (k517) (s_X12_isBallot H hG) mtX12_isBallot wiX12_isBallot weX12_isBallot wlX12_95 (q := 6) dX12_recount_3 rfl rfl rfl rfl rfl rfl rfl (fun r S9 M9 h8 hP => ?_) (fun k S9 M9 hP => (z_no hP.1 rfl).elim)
  obtain ⟨rfl, rfl, h9⟩ := hP
  subst M9
  rw [if_pos hb]
  refine zr_if_ne (q := 13) (q2 := 9) dX12_recount_6 (by decide) rfl (fun h6 => ?_) (fun h6 => ?_)
  · refine zp_il2 (q := 14) dX12_recount_13 rfl ?_
    refine zp_callS1 (s_X12_isWeight) mtX12_isWeight wtX12_isWeight wlX12_98 (q := 17) dX12_recount_14 rfl rfl rfl rfl rfl (fun r S9 M9 h8 hP => ?_) (fun k S9 M9 hP => (z_no hP.1 rfl).elim)
    obtain ⟨rfl, rfl, h9⟩ := hP
    subst M9
    rw [if_pos hx]
    refine zr_if_eq (q := 24) (q2 := 20) dX12_recount_17 (by decide) rfl (fun h17 => ?_) (fun h17 => ?_)
    · exact absurd h17 (by decide)
    · refine zr_iconst (q := 21) dX12_recount_20 rfl (z_in_of rfl) ?_
      refine zr_goto (q := 25) dX12_recount_21 (by decide) ?_
      refine zf_callV1 (k517) (s_X12_fails) mtX12_fails wiX12_fails weX12_fails wlX12_77 (q := 28) dX12_recount_25 rfl rfl rfl rfl rfl rfl rfl (fun r S9 M9 h8 hP => ?_) (fun k S9 M9 hP => (z_no hP.1 rfl).elim)
      obtain ⟨rfl, rfl, h9⟩ := hP
      subst M9
      refine zr_if_eq (q := 33) (q2 := 31) dX12_recount_28 (by decide) rfl (fun h28 => ?_) (fun h28 => ?_)
      · refine zp_al0 (q := 34) dX12_recount_33 rfl ?_
        refine zp_il1 (q := 35) dX12_recount_34 rfl ?_
        refine zr_iconst (q := 36) dX12_recount_35 rfl (z_in_of rfl) ?_
        refine zf_callV2 (k517) (s_X12_of H.c hb.1 (by omega) (by omega) (by omega)) mtX12_of wiX12_of weX12_of wlX12_91 (q := 39) dX12_recount_36 rfl rfl rfl rfl rfl rfl rfl (fun r S9 M9 h8 hP => ?_) (fun k S9 M9 hP => (z_no hP.1 rfl).elim)
        obtain ⟨rfl, rfl, h9⟩ := hP
        subst M9
        rw [Int.add_zero]
        refine zp_is3 (q := 40) dX12_recount_39 rfl rfl rfl ?_
        refine zp_al0 (q := 41) dX12_recount_40 rfl ?_
        refine zp_al0 (q := 42) dX12_recount_41 rfl ?_
        refine zf_getG (v := 518) 0 (k517) (H.1) rfl fdX12_7 (q := 45) dX12_recount_42 rfl rfl ?_
        refine zf_callV1 (k517) (s_X12_keeps (u := 518) H.c k518 (by decide) (by decide) h5) mtX12_keeps wiX12_keeps weX12_keeps wlX12_80 (q := 48) dX12_recount_45 rfl rfl rfl rfl rfl rfl rfl (fun r S9 M9 h8 hP => ?_) (fun k S9 M9 hP => (z_no hP.1 rfl).elim)
        obtain ⟨rfl, rfl, x1, x2, x3, x4⟩ := hP
        have H9 := H.c.k x2
        have e8 : M9 518 = M 518 := x1 518 (by decide) (by decide)
        refine zp_al0 (q := 49) dX12_recount_48 rfl ?_
        refine zf_getG (v := 518) 0 (k517) (H9.1) rfl fdX12_7 (q := 52) dX12_recount_49 rfl rfl ?_
        refine zr_bipush (q := 54) dX12_recount_52 rfl (z_in_of rfl) (by decide +kernel) ?_
        refine zr_bipush (q := 56) dX12_recount_54 rfl (z_in_of rfl) (by decide +kernel) ?_
        refine zp_il1 (q := 57) dX12_recount_56 rfl ?_
        refine zr_imul (q := 58) dX12_recount_57 rfl (fun hA hB => by unfold z_in at hA hB ⊢; omega) ?_
        refine zr_iadd (q := 59) dX12_recount_58 rfl (fun hA hB => by unfold z_in at hA hB ⊢; omega) ?_
        refine zp_il2 (q := 60) dX12_recount_59 rfl ?_
        refine zf_iast (by first | assumption | exact k518 | exact k519 | exact k520 | exact k521 | exact k522 | exact k523 | exact k524 | exact k525 | exact k526 | exact k527 | exact k528 | exact k510 | exact k512 | exact k515 | exact k516 | exact k507 | exact k509 | exact k135 | exact k489 | exact k529 | exact k530) (q := 61) dX12_recount_60 rfl (by omega) (by omega) ?_
        refine zp_il3 (q := 62) dX12_recount_61 rfl ?_
        refine zr_ireturn dX12_recount_62 rfl (z_fit_i _) ?_
        refine ⟨rfl, rfl, z_mF (M1 := M9) (fun z a b => (x1 z a b).trans (z_up_ne a)) (fun j a b => (x2 j a b).trans (z_up_sl b)) (fun z a => by rw [z_up_ne a]), by rw [z_up_ne (by decide)]; exact x3, z_mK x4 (fun z a => by rw [z_up_ne a]), ?_⟩
        funext j
        unfold z_up gRec zSet
        rw [e8]
        by_cases e : j = 20 + 7 * b
        · rw [if_pos ⟨rfl, e⟩, if_pos e]
        · rw [if_neg (fun c => e c.2), if_neg e]
      · exact absurd h28 (by decide)
  · exact absurd (by decide) h6
theorem s_X12_recount_x (H : zHm M) (hG : zWF (M 518)) {b x : Int} (hb : ¬ (0 ≤ b ∧ b < M 518 1)) : z_Call mX12_recount zF [(1, 517), (0, b), (0, x)] M (zpF 0 0 (z_up M 517 7 1)) := by
  refine z_enter (k := 1) rfl rfl rfl ?_
  refine zp_al0 (q := 1) dX12_recount_0 rfl ?_
  refine zp_al0 (q := 2) dX12_recount_1 rfl ?_
  refine zp_il1 (q := 3) dX12_recount_2 rfl ?_
  refine zf_callV1 (k517) (s_X12_isBallot H hG) mtX12_isBallot wiX12_isBallot weX12_isBallot wlX12_95 (q := 6) dX12_recount_3 rfl rfl rfl rfl rfl rfl rfl (fun r S9 M9 h8 hP => ?_) (fun k S9 M9 hP => (z_no hP.1 rfl).elim)
  obtain ⟨rfl, rfl, h9⟩ := hP
  subst M9
  rw [if_neg hb]
  refine zr_if_ne (q := 13) (q2 := 9) dX12_recount_6 (by decide) rfl (fun h6 => ?_) (fun h6 => ?_)
  · exact absurd rfl h6
  · refine zr_iconst (q := 10) dX12_recount_9 rfl (z_in_of rfl) ?_
    refine zr_goto (q := 25) dX12_recount_10 (by decide) ?_
    refine zf_callV1 (k517) (s_X12_fails) mtX12_fails wiX12_fails weX12_fails wlX12_77 (q := 28) dX12_recount_25 rfl rfl rfl rfl rfl rfl rfl (fun r S9 M9 h8 hP => ?_) (fun k S9 M9 hP => (z_no hP.1 rfl).elim)
    obtain ⟨rfl, rfl, h9⟩ := hP
    subst M9
    refine zr_if_eq (q := 33) (q2 := 31) dX12_recount_28 (by decide) rfl (fun h28 => ?_) (fun h28 => ?_)
    · exact absurd h28 (by decide)
    · refine zr_iconst (q := 32) dX12_recount_31 rfl (z_in_of rfl) ?_
      refine zr_ireturn dX12_recount_32 rfl (z_fit_i _) ?_
      exact ⟨rfl, rfl, rfl⟩
theorem s_X12_recount_y (H : zHm M) (hG : zWF (M 518)) {b x : Int} (hb : 0 ≤ b ∧ b < M 518 1) (hx : ¬ (1 ≤ x ∧ x ≤ 99)) : z_Call mX12_recount zF [(1, 517), (0, b), (0, x)] M (zpF 0 0 (z_up M 517 7 2)) := by
  refine z_enter (k := 1) rfl rfl rfl ?_
  refine zp_al0 (q := 1) dX12_recount_0 rfl ?_
  refine zp_al0 (q := 2) dX12_recount_1 rfl ?_
  refine zp_il1 (q := 3) dX12_recount_2 rfl ?_
  refine zf_callV1 (k517) (s_X12_isBallot H hG) mtX12_isBallot wiX12_isBallot weX12_isBallot wlX12_95 (q := 6) dX12_recount_3 rfl rfl rfl rfl rfl rfl rfl (fun r S9 M9 h8 hP => ?_) (fun k S9 M9 hP => (z_no hP.1 rfl).elim)
  obtain ⟨rfl, rfl, h9⟩ := hP
  subst M9
  rw [if_pos hb]
  refine zr_if_ne (q := 13) (q2 := 9) dX12_recount_6 (by decide) rfl (fun h6 => ?_) (fun h6 => ?_)
  · refine zp_il2 (q := 14) dX12_recount_13 rfl ?_
    refine zp_callS1 (s_X12_isWeight) mtX12_isWeight wtX12_isWeight wlX12_98 (q := 17) dX12_recount_14 rfl rfl rfl rfl rfl (fun r S9 M9 h8 hP => ?_) (fun k S9 M9 hP => (z_no hP.1 rfl).elim)
    obtain ⟨rfl, rfl, h9⟩ := hP
    subst M9
    rw [if_neg hx]
    refine zr_if_eq (q := 24) (q2 := 20) dX12_recount_17 (by decide) rfl (fun h17 => ?_) (fun h17 => ?_)
    · refine zr_iconst (q := 25) dX12_recount_24 rfl (z_in_of rfl) ?_
      refine zf_callV1 (k517) (s_X12_fails) mtX12_fails wiX12_fails weX12_fails wlX12_77 (q := 28) dX12_recount_25 rfl rfl rfl rfl rfl rfl rfl (fun r S9 M9 h8 hP => ?_) (fun k S9 M9 hP => (z_no hP.1 rfl).elim)
      obtain ⟨rfl, rfl, h9⟩ := hP
      subst M9
      refine zr_if_eq (q := 33) (q2 := 31) dX12_recount_28 (by decide) rfl (fun h28 => ?_) (fun h28 => ?_)
      · exact absurd h28 (by decide)
      · refine zr_iconst (q := 32) dX12_recount_31 rfl (z_in_of rfl) ?_
        refine zr_ireturn dX12_recount_32 rfl (z_fit_i _) ?_
        exact ⟨rfl, rfl, rfl⟩
    · exact absurd rfl h17
  · exact absurd (by decide) h6
theorem s_X12_spin (H : zHm M) (hG : zWF (M 518)) (h5 : 0 ≤ M 517 5 ∧ M 517 5 ≤ 8) : z_Call mX12_spin zF [(1, 517)] M (zmA ((5 * M 518 2 + 3) % 16) (gSpin (M 518) ((5 * M 518 2 + 3) % 16)) M) := by
  have hs := hG.sp
  refine z_enter (k := 0) rfl rfl rfl ?_
  refine zp_al0 (q := 1) dX12_spin_0 rfl ?_
  refine zp_al0 (q := 2) dX12_spin_1 rfl ?_
  refine zf_getG (v := 518) 0 (k517) (H.1) rfl fdX12_7 (q := 5) dX12_spin_2 rfl rfl ?_
  refine zf_callV1 (k517) (s_X12_keeps (u := 518) H k518 (by decide) (by decide) h5) mtX12_keeps wiX12_keeps weX12_keeps wlX12_80 (q := 8) dX12_spin_5 rfl rfl rfl rfl rfl rfl rfl (fun r S9 M9 h8 hP => ?_) (fun k S9 M9 hP => (z_no hP.1 rfl).elim)
  obtain ⟨rfl, rfl, x1, x2, x3, x4⟩ := hP
  have H9 := H.k x2
  have e8 : M9 518 = M 518 := x1 518 (by decide) (by decide)
  refine zp_al0 (q := 9) dX12_spin_8 rfl ?_
  refine zf_getG (v := 518) 0 (k517) (H9.1) rfl fdX12_7 (q := 12) dX12_spin_9 rfl rfl ?_
  refine zr_iconst (q := 13) dX12_spin_12 rfl (z_in_of rfl) ?_
  refine zr_iconst (q := 14) dX12_spin_13 rfl (z_in_of rfl) ?_
  refine zp_al0 (q := 15) dX12_spin_14 rfl ?_
  refine zf_getG (v := 518) 0 (k517) (H9.1) rfl fdX12_7 (q := 18) dX12_spin_15 rfl rfl ?_
  refine zr_iconst (q := 19) dX12_spin_18 rfl (z_in_of rfl) ?_
  refine zf_iald (v := M 518 2) (by first | assumption | exact k518 | exact k519 | exact k520 | exact k521 | exact k522 | exact k523 | exact k524 | exact k525 | exact k526 | exact k527 | exact k528 | exact k510 | exact k512 | exact k515 | exact k516 | exact k507 | exact k509 | exact k135 | exact k489 | exact k529 | exact k530) (by rw [e8]) (q := 20) dX12_spin_19 rfl (by omega) (by omega) ?_
  refine zr_imul (q := 21) dX12_spin_20 rfl (fun hA hB => by unfold z_in at hA hB ⊢; omega) ?_
  refine zr_iconst (q := 22) dX12_spin_21 rfl (z_in_of rfl) ?_
  refine zr_iadd (q := 23) dX12_spin_22 rfl (fun hA hB => by unfold z_in at hA hB ⊢; omega) ?_
  refine zr_bipush (q := 25) dX12_spin_23 rfl (z_in_of rfl) (by decide +kernel) ?_
  refine zr_irem (q := 26) dX12_spin_25 rfl (by omega) (by omega) ?_
  refine zf_iast (by first | assumption | exact k518 | exact k519 | exact k520 | exact k521 | exact k522 | exact k523 | exact k524 | exact k525 | exact k526 | exact k527 | exact k528 | exact k510 | exact k512 | exact k515 | exact k516 | exact k507 | exact k509 | exact k135 | exact k489 | exact k529 | exact k530) (q := 27) dX12_spin_26 rfl (by omega) (by omega) ?_
  refine zp_al0 (q := 28) dX12_spin_27 rfl ?_
  refine zf_getG (v := 518) 0 (k517) (by rw [z_up_ne (by decide)]; exact H9.1) rfl fdX12_7 (q := 31) dX12_spin_28 rfl rfl ?_
  refine zr_iconst (q := 32) dX12_spin_31 rfl (z_in_of rfl) ?_
  refine zf_iald (v := (5 * M 518 2 + 3) % 16) (by first | assumption | exact k518 | exact k519 | exact k520 | exact k521 | exact k522 | exact k523 | exact k524 | exact k525 | exact k526 | exact k527 | exact k528 | exact k510 | exact k512 | exact k515 | exact k516 | exact k507 | exact k509 | exact k135 | exact k489 | exact k529 | exact k530) (z_up_eq) (q := 33) dX12_spin_32 rfl (by omega) (by omega) ?_
  refine zr_ireturn dX12_spin_33 rfl (z_fit_i _) ?_
  refine ⟨rfl, rfl, z_mF (M1 := M9) x1 x2 (fun z a => by rw [z_up_ne a]), by rw [z_up_ne (by decide)]; exact x3, z_mK x4 (fun z a => by rw [z_up_ne a]), ?_⟩
  funext j
  unfold z_up gSpin zSet
  rw [e8]
  by_cases e : j = 2
  · rw [if_pos ⟨rfl, e⟩, if_pos e]
  · rw [if_neg (fun c => e c.2), if_neg e]
theorem s_X12_removeBallot_k {n b x : Int} (H : zHm M) (hn : M 518 1 = n) (hn0 : 0 ≤ n ∧ n < 20) (hb : 0 ≤ b ∧ b ≤ n) {bc bs : Nat} {Q : zV → zS → zM → Prop} (kk : z_Ex mX12_removeBallot zF 80 [(1, 517), (0, b), (0, x), (0, 20 + 7 * n)] [] (zCpy M 518 (27 + 7 * b) 518 (20 + 7 * b) (7 * n - 7 * b)) bc bs Q) : ∀ (m : Nat) (k : Int), 20 + 7 * b ≤ k → k ≤ 20 + 7 * n → 20 + 7 * n - k < m →
    z_Ex mX12_removeBallot zF 43 [(1, 517), (0, b), (0, x), (0, k)] [] (zCpy M 518 (27 + 7 * b) 518 (20 + 7 * b) (k - (20 + 7 * b))) bc bs Q := by
  intro m
  induction m with
  | zero => intro k a1 a2 a3; omega
  | succ m ih =>
    intro k a1 a2 a3
    refine zp_il3 (q := 44) dX12_removeBallot_43 rfl ?_
    refine zr_bipush (q := 46) dX12_removeBallot_44 rfl (z_in_of rfl) (by decide +kernel) ?_
    refine zr_bipush (q := 48) dX12_removeBallot_46 rfl (z_in_of rfl) (by decide +kernel) ?_
    refine zp_al0 (q := 49) dX12_removeBallot_48 rfl ?_
    refine zf_getG (v := 518) 0 (k517) (by rw [zCpy_ne (by decide)]; exact H.1) rfl fdX12_7 (q := 52) dX12_removeBallot_49 rfl rfl ?_
    refine zr_iconst (q := 53) dX12_removeBallot_52 rfl (z_in_of rfl) ?_
    refine zf_iald (v := n) (by first | assumption | exact k518 | exact k519 | exact k520 | exact k521 | exact k522 | exact k523 | exact k524 | exact k525 | exact k526 | exact k527 | exact k528 | exact k510 | exact k512 | exact k515 | exact k516 | exact k507 | exact k509 | exact k135 | exact k489 | exact k529 | exact k530) (by rw [zCpy_out (by omega)]; exact hn) (q := 54) dX12_removeBallot_53 rfl (by omega) (by omega) ?_
    refine zr_imul (q := 55) dX12_removeBallot_54 rfl (fun hA hB => by unfold z_in at hA hB ⊢; omega) ?_
    refine zr_iadd (q := 56) dX12_removeBallot_55 rfl (fun hA hB => by unfold z_in at hA hB ⊢; omega) ?_
    refine zr_icmp_ge (q := 80) (q2 := 59) dX12_removeBallot_56 (by decide) rfl (fun h56 => ?_) (fun h56 => ?_)
    · have e : k = 20 + 7 * n := by omega
      subst e
      rw [show 20 + 7 * n - (20 + 7 * b) = 7 * n - 7 * b by omega]
      exact kk
    · refine zp_al0 (q := 60) dX12_removeBallot_59 rfl ?_
      refine zf_getG (v := 518) 0 (k517) (by rw [zCpy_ne (by decide)]; exact H.1) rfl fdX12_7 (q := 63) dX12_removeBallot_60 rfl rfl ?_
      refine zp_il3 (q := 64) dX12_removeBallot_63 rfl ?_
      refine zp_al0 (q := 65) dX12_removeBallot_64 rfl ?_
      refine zf_getG (v := 518) 0 (k517) (by rw [zCpy_ne (by decide)]; exact H.1) rfl fdX12_7 (q := 68) dX12_removeBallot_65 rfl rfl ?_
      refine zp_il3 (q := 69) dX12_removeBallot_68 rfl ?_
      refine zr_bipush (q := 71) dX12_removeBallot_69 rfl (z_in_of rfl) (by decide +kernel) ?_
      refine zr_iadd (q := 72) dX12_removeBallot_71 rfl (fun hA hB => by unfold z_in at hA hB ⊢; omega) ?_
      refine zf_iald (v := M 518 (k + 7)) (by first | assumption | exact k518 | exact k519 | exact k520 | exact k521 | exact k522 | exact k523 | exact k524 | exact k525 | exact k526 | exact k527 | exact k528 | exact k510 | exact k512 | exact k515 | exact k516 | exact k507 | exact k509 | exact k135 | exact k489 | exact k529 | exact k530) (zCpy_out (by omega)) (q := 73) dX12_removeBallot_72 rfl (by omega) (by omega) ?_
      refine zf_iast (by first | assumption | exact k518 | exact k519 | exact k520 | exact k521 | exact k522 | exact k523 | exact k524 | exact k525 | exact k526 | exact k527 | exact k528 | exact k510 | exact k512 | exact k515 | exact k516 | exact k507 | exact k509 | exact k135 | exact k489 | exact k529 | exact k530) (q := 74) dX12_removeBallot_73 rfl (by omega) (by omega) ?_
      refine zp_inc3 (q := 77) dX12_removeBallot_74 rfl rfl rfl (fun hA => by unfold z_in at hA ⊢; omega) ?_
      refine zr_goto (q := 43) dX12_removeBallot_77 (by decide) ?_
      have e := zCpy_g (M := M) (u := 518) (a := 27 + 7 * b) (b := 20 + 7 * b) (n := k - (20 + 7 * b)) (by omega)
      rw [show 20 + 7 * b + (k - (20 + 7 * b)) = k by omega, show 27 + 7 * b + (k - (20 + 7 * b)) = k + 7 by omega, show k - (20 + 7 * b) + 1 = k + 1 - (20 + 7 * b) by omega] at e
      rw [e]
      exact ih (k + 1) (by omega) (by omega) (by omega)
theorem s_X12_removeBallot_m {n b x : Int} (H : zHm M) (hn : M 518 1 = n) (hn0 : 0 ≤ n ∧ n < 20) {bc bs : Nat} {Q : zV → zS → zM → Prop} (hQ : Q (0, x) zF (zFil M 518 (20 + 7 * n) 7 0)) : ∀ (m : Nat) (k : Int), 0 ≤ k → k ≤ 7 → 7 - k < m →
    z_Ex mX12_removeBallot zF 82 [(1, 517), (0, b), (0, x), (0, k)] [] (zFil M 518 (20 + 7 * n) k 0) bc bs Q := by
  intro m
  induction m with
  | zero => intro k a1 a2 a3; omega
  | succ m ih =>
    intro k a1 a2 a3
    refine zp_il3 (q := 83) dX12_removeBallot_82 rfl ?_
    refine zr_bipush (q := 85) dX12_removeBallot_83 rfl (z_in_of rfl) (by decide +kernel) ?_
    refine zr_icmp_ge (q := 114) (q2 := 88) dX12_removeBallot_85 (by decide) rfl (fun h85 => ?_) (fun h85 => ?_)
    · refine zp_il2 (q := 115) dX12_removeBallot_114 rfl ?_
      refine zr_ireturn dX12_removeBallot_115 rfl (z_fit_i _) ?_
      have e : k = 7 := by omega
      subst e
      exact hQ
    · refine zp_al0 (q := 89) dX12_removeBallot_88 rfl ?_
      refine zf_getG (v := 518) 0 (k517) (by rw [zFil_ne (by decide)]; exact H.1) rfl fdX12_7 (q := 92) dX12_removeBallot_89 rfl rfl ?_
      refine zr_bipush (q := 94) dX12_removeBallot_92 rfl (z_in_of rfl) (by decide +kernel) ?_
      refine zr_bipush (q := 96) dX12_removeBallot_94 rfl (z_in_of rfl) (by decide +kernel) ?_
      refine zp_al0 (q := 97) dX12_removeBallot_96 rfl ?_
      refine zf_getG (v := 518) 0 (k517) (by rw [zFil_ne (by decide)]; exact H.1) rfl fdX12_7 (q := 100) dX12_removeBallot_97 rfl rfl ?_
      refine zr_iconst (q := 101) dX12_removeBallot_100 rfl (z_in_of rfl) ?_
      refine zf_iald (v := n) (by first | assumption | exact k518 | exact k519 | exact k520 | exact k521 | exact k522 | exact k523 | exact k524 | exact k525 | exact k526 | exact k527 | exact k528 | exact k510 | exact k512 | exact k515 | exact k516 | exact k507 | exact k509 | exact k135 | exact k489 | exact k529 | exact k530) (by rw [zFil_out (by omega)]; exact hn) (q := 102) dX12_removeBallot_101 rfl (by omega) (by omega) ?_
      refine zr_imul (q := 103) dX12_removeBallot_102 rfl (fun hA hB => by unfold z_in at hA hB ⊢; omega) ?_
      refine zr_iadd (q := 104) dX12_removeBallot_103 rfl (fun hA hB => by unfold z_in at hA hB ⊢; omega) ?_
      refine zp_il3 (q := 105) dX12_removeBallot_104 rfl ?_
      refine zr_iadd (q := 106) dX12_removeBallot_105 rfl (fun hA hB => by unfold z_in at hA hB ⊢; omega) ?_
      refine zr_iconst (q := 107) dX12_removeBallot_106 rfl (z_in_of rfl) ?_
      refine zf_iast (by first | assumption | exact k518 | exact k519 | exact k520 | exact k521 | exact k522 | exact k523 | exact k524 | exact k525 | exact k526 | exact k527 | exact k528 | exact k510 | exact k512 | exact k515 | exact k516 | exact k507 | exact k509 | exact k135 | exact k489 | exact k529 | exact k530) (q := 108) dX12_removeBallot_107 rfl (by omega) (by omega) ?_
      refine zp_inc3 (q := 111) dX12_removeBallot_108 rfl rfl rfl (fun hA => by unfold z_in at hA ⊢; omega) ?_
      refine zr_goto (q := 82) dX12_removeBallot_111 (by decide) ?_
      rw [zFil_s a1]
      exact ih (k + 1) (by omega) (by omega) (by omega)
theorem s_X12_removeBallot (H : zHm M) (hG : zWF (M 518)) (h5 : 0 ≤ M 517 5 ∧ M 517 5 ≤ 8) {b : Int} (hb : 0 ≤ b ∧ b < M 518 1) : z_Call mX12_removeBallot zF [(1, 517), (0, b)] M (zmA (M 518 (20 + 7 * b)) (gRem (M 518) b) M) := by
  have hn := hG.n
  refine z_enter (k := 2) rfl rfl rfl ?_
  refine zp_al0 (q := 1) dX12_removeBallot_0 rfl ?_
  refine zp_il1 (q := 2) dX12_removeBallot_1 rfl ?_
  refine zf_callV1 (k517) (s_X12_isLost H hG) mtX12_isLost wiX12_isLost weX12_isLost wlX12_104 (q := 5) dX12_removeBallot_2 rfl rfl rfl rfl rfl rfl rfl (fun r S9 M9 h8 hP => ?_) (fun k S9 M9 hP => (z_no hP.1 rfl).elim)
  obtain ⟨rfl, rfl, h9⟩ := hP
  subst M9
  rw [if_pos hb]
  refine zr_if_eq (q := 10) (q2 := 8) dX12_removeBallot_5 (by decide) rfl (fun h55 => ?_) (fun h55 => ?_)
  · refine zp_al0 (q := 11) dX12_removeBallot_10 rfl ?_
    refine zp_il1 (q := 12) dX12_removeBallot_11 rfl ?_
    refine zr_iconst (q := 13) dX12_removeBallot_12 rfl (z_in_of rfl) ?_
    refine zf_callV2 (k517) (s_X12_of H.c hb.1 (by omega) (by omega) (by omega)) mtX12_of wiX12_of weX12_of wlX12_91 (q := 16) dX12_removeBallot_13 rfl rfl rfl rfl rfl rfl rfl (fun r S9 M9 h8 hP => ?_) (fun k S9 M9 hP => (z_no hP.1 rfl).elim)
    obtain ⟨rfl, rfl, h9⟩ := hP
    subst M9
    rw [Int.add_zero]
    refine zp_is2 (q := 17) dX12_removeBallot_16 rfl rfl rfl ?_
    refine zp_al0 (q := 18) dX12_removeBallot_17 rfl ?_
    refine zp_al0 (q := 19) dX12_removeBallot_18 rfl ?_
    refine zf_getG (v := 518) 0 (k517) (H.1) rfl fdX12_7 (q := 22) dX12_removeBallot_19 rfl rfl ?_
    refine zf_callV1 (k517) (s_X12_keeps (u := 518) H.c k518 (by decide) (by decide) h5) mtX12_keeps wiX12_keeps weX12_keeps wlX12_80 (q := 25) dX12_removeBallot_22 rfl rfl rfl rfl rfl rfl rfl (fun r S9 M9 h8 hP => ?_) (fun k S9 M9 hP => (z_no hP.1 rfl).elim)
    obtain ⟨rfl, rfl, x1, x2, x3, x4⟩ := hP
    have H9 := H.c.k x2
    have e8 : M9 518 = M 518 := x1 518 (by decide) (by decide)
    refine zp_al0 (q := 26) dX12_removeBallot_25 rfl ?_
    refine zf_getG (v := 518) 0 (k517) (H9.1) rfl fdX12_7 (q := 29) dX12_removeBallot_26 rfl rfl ?_
    refine zr_iconst (q := 30) dX12_removeBallot_29 rfl (z_in_of rfl) ?_
    refine zr_dup2 (q := 31) dX12_removeBallot_30 rfl (Or.inl rfl) (Or.inr rfl) ?_
    refine zf_iald (v := M 518 1) (by first | assumption | exact k518 | exact k519 | exact k520 | exact k521 | exact k522 | exact k523 | exact k524 | exact k525 | exact k526 | exact k527 | exact k528 | exact k510 | exact k512 | exact k515 | exact k516 | exact k507 | exact k509 | exact k135 | exact k489 | exact k529 | exact k530) (by rw [e8]) (q := 32) dX12_removeBallot_31 rfl (by omega) (by omega) ?_
    refine zr_iconst (q := 33) dX12_removeBallot_32 rfl (z_in_of rfl) ?_
    refine zr_isub (q := 34) dX12_removeBallot_33 rfl (fun hA hB => by unfold z_in at hA hB ⊢; omega) ?_
    refine zf_iast (by first | assumption | exact k518 | exact k519 | exact k520 | exact k521 | exact k522 | exact k523 | exact k524 | exact k525 | exact k526 | exact k527 | exact k528 | exact k510 | exact k512 | exact k515 | exact k516 | exact k507 | exact k509 | exact k135 | exact k489 | exact k529 | exact k530) (q := 35) dX12_removeBallot_34 rfl (by omega) (by omega) ?_
    refine zr_bipush (q := 37) dX12_removeBallot_35 rfl (z_in_of rfl) (by decide +kernel) ?_
    refine zr_bipush (q := 39) dX12_removeBallot_37 rfl (z_in_of rfl) (by decide +kernel) ?_
    refine zp_il1 (q := 40) dX12_removeBallot_39 rfl ?_
    refine zr_imul (q := 41) dX12_removeBallot_40 rfl (fun hA hB => by unfold z_in at hA hB ⊢; omega) ?_
    refine zr_iadd (q := 42) dX12_removeBallot_41 rfl (fun hA hB => by unfold z_in at hA hB ⊢; omega) ?_
    refine zp_is3 (q := 43) dX12_removeBallot_42 rfl rfl rfl ?_
    have H7 : zHm (z_up M9 518 1 (M 518 1 - 1)) := H9
    have e1 : z_up M9 518 1 (M 518 1 - 1) 518 1 = M 518 1 - 1 := z_up_eq
    have kk : z_Ex mX12_removeBallot zF 80 [(1, 517), (0, b), (0, M 518 (20 + 7 * b)), (0, 20 + 7 * (M 518 1 - 1))] [] (zCpy (z_up M9 518 1 (M 518 1 - 1)) 518 (27 + 7 * b) 518 (20 + 7 * b) (7 * (M 518 1 - 1) - 7 * b)) mX12_removeBallot.2.2.2.2.2.1 mX12_removeBallot.2.2.2.2.2.2.1 (zmA (M 518 (20 + 7 * b)) (gRem (M 518) b) M) := by
      refine zr_iconst (q := 81) dX12_removeBallot_80 rfl (z_in_of rfl) ?_
      refine zp_is3 (q := 82) dX12_removeBallot_81 rfl rfl rfl ?_
      have e := s_X12_removeBallot_m (M := zCpy (z_up M9 518 1 (M 518 1 - 1)) 518 (27 + 7 * b) 518 (20 + 7 * b) (7 * (M 518 1 - 1) - 7 * b)) (n := M 518 1 - 1) (b := b) (x := M 518 (20 + 7 * b)) (H7.of (fun j _ _ _ _ _ => congrFun (zCpy_ne (by decide)) j)) (by rw [zCpy_out (by omega)]; exact e1) (by omega) (bc := mX12_removeBallot.2.2.2.2.2.1) (bs := mX12_removeBallot.2.2.2.2.2.2.1) (Q := zmA (M 518 (20 + 7 * b)) (gRem (M 518) b) M) ⟨rfl, rfl, z_mF (M1 := M9) (fun z a b => (x1 z a b).trans (z_up_ne a)) (fun j a b => (x2 j a b).trans (z_up_sl b)) (fun z a => by rw [zFil_ne a, zCpy_ne a, z_up_ne a]), by rw [zFil_ne (by decide), zCpy_ne (by decide), z_up_ne (by decide)]; exact x3, z_mK x4 (fun z a => by rw [zFil_ne a, zCpy_ne a, z_up_ne a]), by
        funext j
        unfold zFil zCpy z_up gRem
        rw [e8]
        by_cases y1 : j = 1
        · rw [if_neg (by omega), if_neg (by omega), if_pos ⟨rfl, y1⟩, if_pos y1]
        · rw [if_neg y1]
          by_cases y2 : 20 + 7 * b ≤ j ∧ j < 20 + 7 * (M 518 1 - 1)
          · rw [if_neg (by omega), if_pos (by omega), if_neg (by omega), if_pos y2]
            congr 1
            omega
          · rw [if_neg y2]
            by_cases y3 : 20 + 7 * (M 518 1 - 1) ≤ j ∧ j < 27 + 7 * (M 518 1 - 1)
            · rw [if_pos (by omega), if_pos y3]
            · rw [if_neg (by omega), if_neg (by omega), if_neg (fun c => y1 c.2), if_neg y3]⟩ 8 0 (by omega) (by omega) (by omega)
      rw [zFil_0] at e
      exact e
    have e := s_X12_removeBallot_k (n := M 518 1 - 1) (b := b) (x := M 518 (20 + 7 * b)) H7 e1 (by omega) (by omega) kk 141 (20 + 7 * b) (by omega) (by omega) (by omega)
    rw [show (20 + 7 * b) - (20 + 7 * b) = 0 by omega, show zCpy (z_up M9 518 1 (M 518 1 - 1)) 518 (27 + 7 * b) 518 (20 + 7 * b) 0 = z_up M9 518 1 (M 518 1 - 1) from zCpy_0 _ _ _ _ _] at e
    exact e
  · exact absurd rfl h55
theorem s_X12_removeBallot_x (H : zHm M) (hG : zWF (M 518)) {b : Int} (hb : ¬ (0 ≤ b ∧ b < M 518 1)) : z_Call mX12_removeBallot zF [(1, 517), (0, b)] M (zpF 0 0 (z_up M 517 7 1)) := by
  refine z_enter (k := 2) rfl rfl rfl ?_
  refine zp_al0 (q := 1) dX12_removeBallot_0 rfl ?_
  refine zp_il1 (q := 2) dX12_removeBallot_1 rfl ?_
  refine zf_callV1 (k517) (s_X12_isLost H hG) mtX12_isLost wiX12_isLost weX12_isLost wlX12_104 (q := 5) dX12_removeBallot_2 rfl rfl rfl rfl rfl rfl rfl (fun r S9 M9 h8 hP => ?_) (fun k S9 M9 hP => (z_no hP.1 rfl).elim)
  obtain ⟨rfl, rfl, h9⟩ := hP
  subst M9
  rw [if_neg hb]
  refine zr_if_eq (q := 10) (q2 := 8) dX12_removeBallot_5 (by decide) rfl (fun h5 => ?_) (fun h5 => ?_)
  · exact absurd h5 (by decide)
  · refine zr_iconst (q := 9) dX12_removeBallot_8 rfl (z_in_of rfl) ?_
    refine zr_ireturn dX12_removeBallot_9 rfl (z_fit_i _) ?_
    exact ⟨rfl, rfl, rfl⟩
end ZMS
