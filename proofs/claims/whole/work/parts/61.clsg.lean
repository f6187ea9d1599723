/-! dep: 60 -/
/-! ===== WindElection: calls that count ===== -/
/-- only the count and the piles have changed -/
def zKt (M M' : zM) : Prop := (∀ z, z < 488 ∨ 509 < z → M' z = M z) ∧ zHc M' ∧ zHp M'
section ZCL
variable {M : zM} {G : Int → Int}
theorem zTk.k {M' : zM} (h : zTk M M' G) (Hp : zHp M) : zKt M M' := by
  refine ⟨fun z hz => h.1 z (by omega), h.2.1, ?_⟩
  unfold zHp
  rw [h.1 506 (by omega), h.1 508 (by omega)]
  exact Hp
theorem zTk.r {M' : zM} (h : zTk M M' G) (hG : zWF G) {i : Int} (h0 : 0 ≤ i) (h1 : i < zRn G) : zRk1 M' (490 + 2 * i) G i := h.2.2.2.2.2 i h0 h1
theorem zTk.n {M' : zM} (h : zTk M M' G) : M' 488 1 = zRn G := h.2.2.1
theorem zTk.w {M' : zM} (h : zTk M M' G) : M' 488 2 = zW G := h.2.2.2.1
theorem zTk.s {M' : zM} (h : zTk M M' G) : M' 488 3 = zP G (zRn G) := h.2.2.2.2.1
theorem zTk.hw {M' : zM} (h : zTk M M' G) (Hw : zHw M) : zHw M' := Hw.of (h.1 1 (by omega))
theorem zTk.ar {M' : zM} (h : zTk M M' G) (hG : zWF G) {a : Int} {G2 : Int → Int} (ha : zAs a) (hG2 : zWF G2) (R : zAR M a G2) : zAR M' a G2 := R.of hG2 (fun z z0 z1 => h.1 z (by have := zAs_rng ha; omega))
theorem zRk1_vb (hG : zWF G) {r i : Int} (h : zRk1 M r G i) : zVb (M (r + 1)) := fun w w0 w1 => by rw [h.1 w w0 w1]; exact zVo_range hG _ w
theorem s_X3_roundThatEliminates_l (Hc : zHc M) (hn : M 488 1 = zRn G) (hr : ∀ i, 0 ≤ i → i < zRn G → zRk1 M (490 + 2 * i) G i) (hG : zWF G) {w : Int} {bc bs : Nat} : ∀ (m : Nat) (k : Int), 0 ≤ k → k ≤ zRn G → zRn G - k < m → (∀ j, 0 ≤ j → j < k → ¬ zEl (zVr G j) (zP G j) = w) →
    z_Ex mX3_roundThatEliminates zF 2 [(1, 488), (0, w), (0, k)] [] M bc bs (zpF 0 (zRe G w) M) := by
  have h8 := zRn_le hG
  intro m
  induction m with
  | zero => intro k h0 h1 h2; omega
  | succ m ih =>
    intro k h0 h1 h2 hx
    refine zp_il2 (q := 3) dX3_roundThatEliminates_2 rfl ?_
    refine zp_al0 (q := 4) dX3_roundThatEliminates_3 rfl ?_
    refine zf_getG (v := zRn G) 1 (k488) (hn) rfl fdX3_17 (q := 7) dX3_roundThatEliminates_4 rfl rfl ?_
    refine zr_icmp_ge (q := 31) (q2 := 10) dX3_roundThatEliminates_7 (by decide) rfl (fun h7 => ?_) (fun h7 => ?_)
    · refine zr_iconst (q := 32) dX3_roundThatEliminates_31 rfl (z_in_of rfl) ?_
      refine zr_ireturn dX3_roundThatEliminates_32 rfl (z_fit_i _) ?_
      exact ⟨by unfold zRe; rw [zFs_no (fun j a1 a2 => decide_eq_false (hx j a1 (by omega)))], rfl, rfl⟩
    · refine zp_al0 (q := 11) dX3_roundThatEliminates_10 rfl ?_
      refine zf_getG (v := 489) 0 (k488) (Hc.1) rfl fdX3_11 (q := 14) dX3_roundThatEliminates_11 rfl rfl ?_
      refine zp_il2 (q := 15) dX3_roundThatEliminates_14 rfl ?_
      refine zf_aald (v := 490 + 2 * k) (by first | assumption | exact k518 | exact k519 | exact k520 | exact k521 | exact k522 | exact k523 | exact k524 | exact k525 | exact k526 | exact k527 | exact k528 | exact k510 | exact k512 | exact k515 | exact k516 | exact k507 | exact k509 | exact k135 | exact k489 | exact k529 | exact k530) ((Hc.2 k (by omega) (by omega)).1) (by decide) (q := 16) dX3_roundThatEliminates_15 rfl (by omega) (by omega) ?_
      have ro := zRo_0 (ro490 (k := k) (by omega) (by omega))
      refine zf_getG (v := zEl (zVr G k) (zP G k)) 3 (by first | assumption | exact k508) ((hr k h0 (by omega)).2.2.2.1) rfl fdX3_59 (q := 19) dX3_roundThatEliminates_16 rfl rfl ?_
      refine zp_il1 (q := 20) dX3_roundThatEliminates_19 rfl ?_
      refine zr_icmp_ne (q := 25) (q2 := 23) dX3_roundThatEliminates_20 (by decide) rfl (fun h20 => ?_) (fun h20 => ?_)
      · refine zp_inc2 (q := 28) dX3_roundThatEliminates_25 rfl rfl rfl (fun hA => by unfold z_in at hA ⊢; omega) ?_
        refine zr_goto (q := 2) dX3_roundThatEliminates_28 (by decide) ?_
        exact ih (k + 1) (by omega) (by omega) (by omega) (fun j a1 a2 => by
          by_cases e : j = k
          · rw [e]; assumption
          · exact hx j a1 (by omega))
      · refine zp_il2 (q := 24) dX3_roundThatEliminates_23 rfl ?_
        refine zr_ireturn dX3_roundThatEliminates_24 rfl (z_fit_i _) ?_
        exact ⟨by unfold zRe; rw [zFs_yes h0 (by omega) (decide_eq_true (by omega)) (fun j a1 a2 => decide_eq_false (hx j a1 a2))], rfl, rfl⟩
theorem s_X3_roundThatEliminates (Hc : zHc M) (hn : M 488 1 = zRn G) (hr : ∀ i, 0 ≤ i → i < zRn G → zRk1 M (490 + 2 * i) G i) (hG : zWF G) {w : Int} : z_Call mX3_roundThatEliminates zF [(1, 488), (0, w)] M (zpF 0 (zRe G w) M) := by
  have h8 := zRn_le hG
  refine z_enter (k := 1) rfl rfl rfl ?_
  refine zr_iconst (q := 1) dX3_roundThatEliminates_0 rfl (z_in_of rfl) ?_
  refine zp_is2 (q := 2) dX3_roundThatEliminates_1 rfl rfl rfl ?_
  exact s_X3_roundThatEliminates_l Hc hn hr hG 9 0 (by omega) (by omega) (by omega) (fun j a1 a2 => by omega)
theorem zRk1_all (hG : zWF G) {r i : Int} (h : zRk1 M r G i) (h0 : 0 ≤ i) : zSm (M (r + 1)) + M r 1 = zTot G := by
  rw [zSm_congr (W := zVr G i) h.1, h.2.1]
  exact zSm_all hG (zA G i) (fun w hw => by
    have := of_decide_eq_true (zA_sub h0 w hw)
    have := hG.w
    omega)
theorem zTot_range (hG : zWF G) : 0 ≤ zTot G ∧ zTot G ≤ 1980 := by
  have hn := hG.n
  have := zU_le (f := fun b => G (20 + 7 * b)) (n := G 1) (lo := 0) (hi := 99) hn.1 (fun b b0 b1 => by have := hG.wt b0 b1; omega)
  unfold zTot
  omega
theorem s_X3_addsUpTo_l (Hc : zHc M) (hn : M 488 1 = zRn G) (hr : ∀ i, 0 ≤ i → i < zRn G → zRk1 M (490 + 2 * i) G i) (hG : zWF G) {bc bs : Nat} : ∀ (m : Nat) (k : Int), 0 ≤ k → k ≤ zRn G → zRn G - k < m →
    z_Ex mX3_addsUpTo zF 2 [(1, 488), (0, zTot G), (0, k)] [] M bc bs (zpF 0 1 M) := by
  have h8 := zRn_le hG
  have ht := zTot_range hG
  intro m
  induction m with
  | zero => intro k h0 h1 h2; omega
  | succ m ih =>
    intro k h0 h1 h2
    refine zp_il2 (q := 3) dX3_addsUpTo_2 rfl ?_
    refine zp_al0 (q := 4) dX3_addsUpTo_3 rfl ?_
    refine zf_getG (v := zRn G) 1 (k488) (hn) rfl fdX3_17 (q := 7) dX3_addsUpTo_4 rfl rfl ?_
    refine zr_icmp_ge (q := 41) (q2 := 10) dX3_addsUpTo_7 (by decide) rfl (fun h7 => ?_) (fun h7 => ?_)
    · refine zr_iconst (q := 42) dX3_addsUpTo_41 rfl (z_in_of rfl) ?_
      refine zr_ireturn dX3_addsUpTo_42 rfl (z_fit_z (by decide)) ?_
      exact ⟨rfl, rfl, rfl⟩
    · have hro := ro490 (k := k) (by omega) (by omega)
      have ro := zRo_0 hro
      have hk := hr k h0 (by omega)
      have hall := zRk1_all hG hk h0
      have hx := zXk_range hG (zA G k) hG.n.1 (Int.le_refl _)
      have hk1 := hk.2.1
      have hn9 := hG.n
      refine zp_al0 (q := 11) dX3_addsUpTo_10 rfl ?_
      refine zf_getG (v := 489) 0 (k488) (Hc.1) rfl fdX3_11 (q := 14) dX3_addsUpTo_11 rfl rfl ?_
      refine zp_il2 (q := 15) dX3_addsUpTo_14 rfl ?_
      refine zf_aald (v := 490 + 2 * k) (by first | assumption | exact k518 | exact k519 | exact k520 | exact k521 | exact k522 | exact k523 | exact k524 | exact k525 | exact k526 | exact k527 | exact k528 | exact k510 | exact k512 | exact k515 | exact k516 | exact k507 | exact k509 | exact k135 | exact k489 | exact k529 | exact k530) ((Hc.2 k (by omega) (by omega)).1) (by decide) (q := 16) dX3_addsUpTo_15 rfl (by omega) (by omega) ?_
      refine zf_callV0 (by first | assumption | exact k508) (s_X8_sumOfVotes hro (Hc.2 k (by omega) (by omega)).2 (zRk1_vb hG hk)) mtX8_sumOfVotes wiX8_sumOfVotes weX8_sumOfVotes wlX3_62 (q := 19) dX3_addsUpTo_16 rfl rfl rfl rfl rfl rfl rfl (fun r S9 M9 h8 hP => ?_) (fun k S9 M9 hP => (z_no hP.1 rfl).elim)
      obtain ⟨rfl, rfl, h9⟩ := hP
      subst M9
      refine zp_al0 (q := 20) dX3_addsUpTo_19 rfl ?_
      refine zf_getG (v := 489) 0 (k488) (Hc.1) rfl fdX3_11 (q := 23) dX3_addsUpTo_20 rfl rfl ?_
      refine zp_il2 (q := 24) dX3_addsUpTo_23 rfl ?_
      refine zf_aald (v := 490 + 2 * k) (by first | assumption | exact k518 | exact k519 | exact k520 | exact k521 | exact k522 | exact k523 | exact k524 | exact k525 | exact k526 | exact k527 | exact k528 | exact k510 | exact k512 | exact k515 | exact k516 | exact k507 | exact k509 | exact k135 | exact k489 | exact k529 | exact k530) ((Hc.2 k (by omega) (by omega)).1) (by decide) (q := 25) dX3_addsUpTo_24 rfl (by omega) (by omega) ?_
      refine zf_getG (v := M (490 + 2 * k) 1) 1 (by first | assumption | exact k508) (rfl) rfl fdX3_65 (q := 28) dX3_addsUpTo_25 rfl rfl ?_
      refine zr_iadd (q := 29) dX3_addsUpTo_28 rfl (fun hA hB => by unfold z_in at hA hB ⊢; omega) ?_
      refine zp_il1 (q := 30) dX3_addsUpTo_29 rfl ?_
      refine zr_icmp_eq (q := 35) (q2 := 33) dX3_addsUpTo_30 (by decide) rfl (fun h30 => ?_) (fun h30 => ?_)
      · refine zp_inc2 (q := 38) dX3_addsUpTo_35 rfl rfl rfl (fun hA => by unfold z_in at hA ⊢; omega) ?_
        refine zr_goto (q := 2) dX3_addsUpTo_38 (by decide) ?_
        exact ih (k + 1) (by omega) (by omega) (by omega)
      · exact absurd hall h30
theorem s_X3_addsUpTo (Hc : zHc M) (hn : M 488 1 = zRn G) (hr : ∀ i, 0 ≤ i → i < zRn G → zRk1 M (490 + 2 * i) G i) (hG : zWF G) : z_Call mX3_addsUpTo zF [(1, 488), (0, zTot G)] M (zpF 0 1 M) := by
  have h8 := zRn_le hG
  refine z_enter (k := 1) rfl rfl rfl ?_
  refine zr_iconst (q := 1) dX3_addsUpTo_0 rfl (z_in_of rfl) ?_
  refine zp_is2 (q := 2) dX3_addsUpTo_1 rfl rfl rfl ?_
  exact s_X3_addsUpTo_l Hc hn hr hG 9 0 (by omega) (by omega) (by omega)
theorem s_X11_winner (Hw : zHw M) (R : zAR M 2 G) (hG : zWF G) (Hc : zHc M) (Hp : zHp M) (hs : zSt G ≠ 0) : z_Call mX11_winner zF [(1, 1)] M (fun r S' M' => r = (0, zW G) ∧ S' = zF ∧ zKt M M') := by
  have hst := zSt_range hG
  have hw := zW_range hG (by omega)
  refine z_enter (k := 0) rfl rfl rfl ?_
  refine zp_al0 (q := 1) dX11_winner_0 rfl ?_
  refine zf_getG (v := 488) 5 (k1) (Hw.co) rfl fdX11_36 (q := 4) dX11_winner_1 rfl rfl ?_
  refine zp_al0 (q := 5) dX11_winner_4 rfl ?_
  refine zf_getG (v := 2) 0 (k1) (Hw.as) rfl fdX11_10 (q := 8) dX11_winner_5 rfl rfl ?_
  refine zf_callV1 (k488) (s_X3_take as2 R hG Hc) mtX3_take wiX3_take weX3_take wlX11_153 (q := 11) dX11_winner_8 rfl rfl rfl rfl rfl rfl rfl (fun r S9 M9 h8 hP => ?_) (fun k S9 M9 hP => (z_no hP.1 rfl).elim)
  obtain ⟨rfl, rfl, hT⟩ := hP
  have HW := hT.hw Hw
  have RT := hT.ar hG as2 hG R
  have hK := hT.k Hp
  refine zp_al0 (q := 12) dX11_winner_11 rfl ?_
  refine zf_getG (v := 488) 5 (k1) (HW.co) rfl fdX11_36 (q := 15) dX11_winner_12 rfl rfl ?_
  refine zf_getG (v := zW G) 2 (k488) (hT.w) rfl fdX11_156 (q := 18) dX11_winner_15 rfl rfl ?_
  refine zp_callS1 (s_X11_found (by omega)) mtX11_found wtX11_found wlX11_147 (q := 21) dX11_winner_18 rfl rfl rfl rfl rfl (fun r S9 M9 h8 hP => ?_) (fun k S9 M9 hP => (z_no hP.1 rfl).elim)
  obtain ⟨rfl, rfl, h9⟩ := hP
  subst M9
  refine zr_ireturn dX11_winner_21 rfl (z_fit_i _) ?_
  exact ⟨rfl, rfl, hK⟩
theorem s_X11_winner_x (Hw : zHw M) (R : zAR M 2 G) (hG : zWF G) (Hc : zHc M) (Hp : zHp M) (hs : zSt G = 0) : z_Call mX11_winner zF [(1, 1)] M (fun r S' M' => r = (8, 4) ∧ S' = zF ∧ zKt M M') := by
  refine z_enter (k := 0) rfl rfl rfl ?_
  refine zp_al0 (q := 1) dX11_winner_0 rfl ?_
  refine zf_getG (v := 488) 5 (k1) (Hw.co) rfl fdX11_36 (q := 4) dX11_winner_1 rfl rfl ?_
  refine zp_al0 (q := 5) dX11_winner_4 rfl ?_
  refine zf_getG (v := 2) 0 (k1) (Hw.as) rfl fdX11_10 (q := 8) dX11_winner_5 rfl rfl ?_
  refine zf_callV1 (k488) (s_X3_take as2 R hG Hc) mtX3_take wiX3_take weX3_take wlX11_153 (q := 11) dX11_winner_8 rfl rfl rfl rfl rfl rfl rfl (fun r S9 M9 h8 hP => ?_) (fun k S9 M9 hP => (z_no hP.1 rfl).elim)
  obtain ⟨rfl, rfl, hT⟩ := hP
  have HW := hT.hw Hw
  have RT := hT.ar hG as2 hG R
  have hK := hT.k Hp
  refine zp_al0 (q := 12) dX11_winner_11 rfl ?_
  refine zf_getG (v := 488) 5 (k1) (HW.co) rfl fdX11_36 (q := 15) dX11_winner_12 rfl rfl ?_
  refine zf_getG (v := -1) 2 (k488) (hT.w.trans ((zW_neg hG).mpr hs)) rfl fdX11_156 (q := 18) dX11_winner_15 rfl rfl ?_
  refine zp_callS1 (s_X11_found_x rfl) mtX11_found wtX11_found wlX11_147 (q := 21) dX11_winner_18 rfl rfl rfl rfl rfl (fun r S9 M9 h8 hP => absurd (congrArg Prod.fst hP.1) h8) (fun k S9 M9 hP => ?_)
  obtain ⟨h8, rfl, h9⟩ := hP
  subst M9
  cases h8
  exact ⟨rfl, rfl, hK⟩
theorem z_el {M' : zM} (Hc : zHc M) (Hp : zHp M) (h1 : ∀ z, z ≠ 507 → z ≠ 508 → z ≠ 509 → M' z = M z) (h2 : M' 508 0 = 509) : zKt M M' := by
  refine ⟨fun z hz => h1 z (by omega) (by omega) (by omega), ⟨by rw [h1 488 (by decide) (by decide) (by decide)]; exact Hc.1, fun k k0 k1 => by rw [h1 489 (by decide) (by decide) (by decide), h1 _ (by omega) (by omega) (by omega)]; exact Hc.2 k k0 k1⟩, ?_⟩
  unfold zHp
  rw [h1 506 (by decide) (by decide) (by decide)]
  exact ⟨Hp.1, Hp.2.1, h2⟩
theorem s_X11_winnerByTransfers (Hw : zHw M) (R : zAR M 2 G) (hG : zWF G) (Hc : zHc M) (Hp : zHp M) (hs : zSt G ≠ 0) : z_Call mX11_winnerByTransfers zF [(1, 1)] M (fun r S' M' => r = (0, zW G) ∧ S' = zF ∧ zKt M M') := by
  have hst := zSt_range hG
  have hw := zW_range hG (by omega)
  refine z_enter (k := 0) rfl rfl rfl ?_
  refine zp_al0 (q := 1) dX11_winnerByTransfers_0 rfl ?_
  refine zf_getG (v := 506) 6 (k1) (Hw.pi) rfl fdX11_43 (q := 4) dX11_winnerByTransfers_1 rfl rfl ?_
  refine zp_al0 (q := 5) dX11_winnerByTransfers_4 rfl ?_
  refine zf_getG (v := 2) 0 (k1) (Hw.as) rfl fdX11_10 (q := 8) dX11_winnerByTransfers_5 rfl rfl ?_
  refine zf_callV1 (k506) (s_X6_elect as2 R hG Hp) mtX6_elect wiX6_elect weX6_elect wlX11_159 (q := 11) dX11_winnerByTransfers_8 rfl rfl rfl rfl rfl rfl rfl (fun r S9 M9 h8 hP => ?_) (fun k S9 M9 hP => (z_no hP.1 rfl).elim)
  obtain ⟨rfl, rfl, y1, y2⟩ := hP
  refine zp_callS1 (s_X11_found (by omega)) mtX11_found wtX11_found wlX11_147 (q := 14) dX11_winnerByTransfers_11 rfl rfl rfl rfl rfl (fun r S9 M9 h8 hP => ?_) (fun k S9 M9 hP => (z_no hP.1 rfl).elim)
  obtain ⟨rfl, rfl, h9⟩ := hP
  subst M9
  refine zr_ireturn dX11_winnerByTransfers_14 rfl (z_fit_i _) ?_
  exact ⟨rfl, rfl, z_el Hc Hp y1 y2⟩
theorem s_X11_winnerByTransfers_x (Hw : zHw M) (R : zAR M 2 G) (hG : zWF G) (Hc : zHc M) (Hp : zHp M) (hs : zSt G = 0) : z_Call mX11_winnerByTransfers zF [(1, 1)] M (fun r S' M' => r = (8, 4) ∧ S' = zF ∧ zKt M M') := by
  refine z_enter (k := 0) rfl rfl rfl ?_
  refine zp_al0 (q := 1) dX11_winnerByTransfers_0 rfl ?_
  refine zf_getG (v := 506) 6 (k1) (Hw.pi) rfl fdX11_43 (q := 4) dX11_winnerByTransfers_1 rfl rfl ?_
  refine zp_al0 (q := 5) dX11_winnerByTransfers_4 rfl ?_
  refine zf_getG (v := 2) 0 (k1) (Hw.as) rfl fdX11_10 (q := 8) dX11_winnerByTransfers_5 rfl rfl ?_
  refine zf_callV1 (k506) (s_X6_elect as2 R hG Hp) mtX6_elect wiX6_elect weX6_elect wlX11_159 (q := 11) dX11_winnerByTransfers_8 rfl rfl rfl rfl rfl rfl rfl (fun r S9 M9 h8 hP => ?_) (fun k S9 M9 hP => (z_no hP.1 rfl).elim)
  obtain ⟨rfl, rfl, y1, y2⟩ := hP
  refine zp_callS1 (s_X11_found_x ((zW_neg hG).mpr hs)) mtX11_found wtX11_found wlX11_147 (q := 14) dX11_winnerByTransfers_11 rfl rfl rfl rfl rfl (fun r S9 M9 h8 hP => absurd (congrArg Prod.fst hP.1) h8) (fun k S9 M9 hP => ?_)
  obtain ⟨h8, rfl, h9⟩ := hP
  subst M9
  cases h8
  exact ⟨rfl, rfl, z_el Hc Hp y1 y2⟩
theorem s_X11_roundCount (Hw : zHw M) (R : zAR M 2 G) (hG : zWF G) (Hc : zHc M) (Hp : zHp M) : z_Call mX11_roundCount zF [(1, 1)] M (fun r S' M' => r = (0, zRn G) ∧ S' = zF ∧ zKt M M') := by
  refine z_enter (k := 0) rfl rfl rfl ?_
  refine zp_al0 (q := 1) dX11_roundCount_0 rfl ?_
  refine zf_getG (v := 488) 5 (k1) (Hw.co) rfl fdX11_36 (q := 4) dX11_roundCount_1 rfl rfl ?_
  refine zp_al0 (q := 5) dX11_roundCount_4 rfl ?_
  refine zf_getG (v := 2) 0 (k1) (Hw.as) rfl fdX11_10 (q := 8) dX11_roundCount_5 rfl rfl ?_
  refine zf_callV1 (k488) (s_X3_take as2 R hG Hc) mtX3_take wiX3_take weX3_take wlX11_153 (q := 11) dX11_roundCount_8 rfl rfl rfl rfl rfl rfl rfl (fun r S9 M9 h8 hP => ?_) (fun k S9 M9 hP => (z_no hP.1 rfl).elim)
  obtain ⟨rfl, rfl, hT⟩ := hP
  have HW := hT.hw Hw
  have RT := hT.ar hG as2 hG R
  have hK := hT.k Hp
  refine zp_al0 (q := 12) dX11_roundCount_11 rfl ?_
  refine zf_getG (v := 488) 5 (k1) (HW.co) rfl fdX11_36 (q := 15) dX11_roundCount_12 rfl rfl ?_
  refine zf_getG (v := zRn G) 1 (k488) (hT.n) rfl fdX11_163 (q := 18) dX11_roundCount_15 rfl rfl ?_
  refine zr_ireturn dX11_roundCount_18 rfl (z_fit_i _) ?_
  exact ⟨rfl, rfl, hK⟩
theorem s_X11_roundNumbered (Hw : zHw M) (R : zAR M 2 G) (hG : zWF G) (Hc : zHc M) (Hp : zHp M) {i : Int} (hi : 0 ≤ i ∧ i < zRn G) : z_Call mX11_roundNumbered zF [(1, 1), (0, i)] M (fun r S' M' => r = (1, 490 + 2 * i) ∧ S' = zF ∧ zTk M M' G) := by
  have h8 := zRn_le hG
  refine z_enter (k := 0) rfl rfl rfl ?_
  refine zp_al0 (q := 1) dX11_roundNumbered_0 rfl ?_
  refine zf_getG (v := 488) 5 (k1) (Hw.co) rfl fdX11_36 (q := 4) dX11_roundNumbered_1 rfl rfl ?_
  refine zp_al0 (q := 5) dX11_roundNumbered_4 rfl ?_
  refine zf_getG (v := 2) 0 (k1) (Hw.as) rfl fdX11_10 (q := 8) dX11_roundNumbered_5 rfl rfl ?_
  refine zf_callV1 (k488) (s_X3_take as2 R hG Hc) mtX3_take wiX3_take weX3_take wlX11_153 (q := 11) dX11_roundNumbered_8 rfl rfl rfl rfl rfl rfl rfl (fun r S9 M9 h8 hP => ?_) (fun k S9 M9 hP => (z_no hP.1 rfl).elim)
  obtain ⟨rfl, rfl, hT⟩ := hP
  have HW := hT.hw Hw
  have RT := hT.ar hG as2 hG R
  have hK := hT.k Hp
  refine zp_il1 (q := 12) dX11_roundNumbered_11 rfl ?_
  refine zr_if_lt (q := 26) (q2 := 15) dX11_roundNumbered_12 (by decide) rfl (fun h12 => ?_) (fun h12 => ?_)
  · exact absurd hi (by omega)
  · refine zp_il1 (q := 16) dX11_roundNumbered_15 rfl ?_
    refine zp_al0 (q := 17) dX11_roundNumbered_16 rfl ?_
    refine zf_getG (v := 488) 5 (k1) (HW.co) rfl fdX11_36 (q := 20) dX11_roundNumbered_17 rfl rfl ?_
    refine zf_getG (v := zRn G) 1 (k488) (hT.n) rfl fdX11_163 (q := 23) dX11_roundNumbered_20 rfl rfl ?_
    refine zr_icmp_lt (q := 37) (q2 := 26) dX11_roundNumbered_23 (by decide) rfl (fun h23 => ?_) (fun h23 => ?_)
    · refine zp_al0 (q := 38) dX11_roundNumbered_37 rfl ?_
      refine zf_getG (v := 488) 5 (k1) (HW.co) rfl fdX11_36 (q := 41) dX11_roundNumbered_38 rfl rfl ?_
      refine zf_getG (v := 489) 0 (k488) (hT.2.1.1) rfl fdX11_193 (q := 44) dX11_roundNumbered_41 rfl rfl ?_
      refine zp_il1 (q := 45) dX11_roundNumbered_44 rfl ?_
      refine zf_aald (v := 490 + 2 * i) (by first | assumption | exact k518 | exact k519 | exact k520 | exact k521 | exact k522 | exact k523 | exact k524 | exact k525 | exact k526 | exact k527 | exact k528 | exact k510 | exact k512 | exact k515 | exact k516 | exact k507 | exact k509 | exact k135 | exact k489 | exact k529 | exact k530) ((hT.2.1.2 i (by omega) (by omega)).1) (by decide) (q := 46) dX11_roundNumbered_45 rfl (by omega) (by omega) ?_
      refine zr_areturn dX11_roundNumbered_46 rfl (Or.inl ⟨_, rfl⟩) ?_
      exact ⟨rfl, rfl, hT⟩
    · exact absurd hi (by omega)
theorem s_X11_roundNumbered_x (Hw : zHw M) (R : zAR M 2 G) (hG : zWF G) (Hc : zHc M) (Hp : zHp M) {i : Int} (hi : ¬ (0 ≤ i ∧ i < zRn G)) : z_Call mX11_roundNumbered zF [(1, 1), (0, i)] M (fun r S' M' => r = (8, 4) ∧ S' = zF ∧ zTk M M' G) := by
  refine z_enter (k := 0) rfl rfl rfl ?_
  refine zp_al0 (q := 1) dX11_roundNumbered_0 rfl ?_
  refine zf_getG (v := 488) 5 (k1) (Hw.co) rfl fdX11_36 (q := 4) dX11_roundNumbered_1 rfl rfl ?_
  refine zp_al0 (q := 5) dX11_roundNumbered_4 rfl ?_
  refine zf_getG (v := 2) 0 (k1) (Hw.as) rfl fdX11_10 (q := 8) dX11_roundNumbered_5 rfl rfl ?_
  refine zf_callV1 (k488) (s_X3_take as2 R hG Hc) mtX3_take wiX3_take weX3_take wlX11_153 (q := 11) dX11_roundNumbered_8 rfl rfl rfl rfl rfl rfl rfl (fun r S9 M9 h8 hP => ?_) (fun k S9 M9 hP => (z_no hP.1 rfl).elim)
  obtain ⟨rfl, rfl, hT⟩ := hP
  have HW := hT.hw Hw
  have RT := hT.ar hG as2 hG R
  have hK := hT.k Hp
  refine zp_il1 (q := 12) dX11_roundNumbered_11 rfl ?_
  refine zr_if_lt (q := 26) (q2 := 15) dX11_roundNumbered_12 (by decide) rfl (fun h12 => ?_) (fun h12 => ?_)
  · refine zr_throwNW (i := 11) th_4 rfl (by decide) rfl rfl dX11_roundNumbered_26 dX11_roundNumbered_29 dX11_roundNumbered_30 dX11_roundNumbered_33 dX11_roundNumbered_36 (by decide) rfl (by decide) (by decide) (by decide) ?_
    exact ⟨rfl, rfl, hT⟩
  · refine zp_il1 (q := 16) dX11_roundNumbered_15 rfl ?_
    refine zp_al0 (q := 17) dX11_roundNumbered_16 rfl ?_
    refine zf_getG (v := 488) 5 (k1) (HW.co) rfl fdX11_36 (q := 20) dX11_roundNumbered_17 rfl rfl ?_
    refine zf_getG (v := zRn G) 1 (k488) (hT.n) rfl fdX11_163 (q := 23) dX11_roundNumbered_20 rfl rfl ?_
    refine zr_icmp_lt (q := 37) (q2 := 26) dX11_roundNumbered_23 (by decide) rfl (fun h23 => ?_) (fun h23 => ?_)
    · exact absurd (show 0 ≤ i ∧ i < zRn G by omega) hi
    · refine zr_throwNW (i := 11) th_4 rfl (by decide) rfl rfl dX11_roundNumbered_26 dX11_roundNumbered_29 dX11_roundNumbered_30 dX11_roundNumbered_33 dX11_roundNumbered_36 (by decide) rfl (by decide) (by decide) (by decide) ?_
      exact ⟨rfl, rfl, hT⟩
theorem s_X11_votesIn (Hw : zHw M) (R : zAR M 2 G) (hG : zWF G) (Hc : zHc M) (Hp : zHp M) {i : Int} (hi : 0 ≤ i ∧ i < zRn G) {w : Int} (hw : 0 ≤ w ∧ w < G 0) (hv : zVr G i w ≠ -1) : z_Call mX11_votesIn zF [(1, 1), (0, i), (0, w)] M (fun r S' M' => r = (0, zVr G i w) ∧ S' = zF ∧ zKt M M') := by
  have h8 := zRn_le hG
  have hg := hG.w
  refine z_enter (k := 1) rfl rfl rfl ?_
  refine zp_al0 (q := 1) dX11_votesIn_0 rfl ?_
  refine zp_il2 (q := 2) dX11_votesIn_1 rfl ?_
  refine zf_callV1 (k1) (s_X11_checkWind Hw R hG hw) mtX11_checkWind wiX11_checkWind weX11_checkWind wlX11_95 (q := 5) dX11_votesIn_2 rfl rfl rfl rfl rfl rfl rfl (fun r S9 M9 h8 hP => ?_) (fun k S9 M9 hP => (z_no hP.1 rfl).elim)
  obtain ⟨rfl, rfl, h9⟩ := hP
  subst M9
  refine zp_al0 (q := 6) dX11_votesIn_5 rfl ?_
  refine zp_il1 (q := 7) dX11_votesIn_6 rfl ?_
  refine zf_callV1 (k1) (s_X11_roundNumbered Hw R hG Hc Hp hi) mtX11_roundNumbered wiX11_roundNumbered weX11_roundNumbered wlX11_164 (q := 10) dX11_votesIn_7 rfl rfl rfl rfl rfl rfl rfl (fun r S9 M9 h8 hP => ?_) (fun k S9 M9 hP => (z_no hP.1 rfl).elim)
  obtain ⟨rfl, rfl, hT⟩ := hP
  have HW := hT.hw Hw
  have RT := hT.ar hG as2 hG R
  have hK := hT.k Hp
  have hk := hT.r hG hi.1 hi.2
  have hro := ro490 (k := i) hi.1 (by omega)
  have ro := zRo_0 hro
  have ro1 := zRo_1 hro
  refine zp_as3 (q := 11) dX11_votesIn_10 rfl rfl rfl ?_
  refine zp_al3 (q := 12) dX11_votesIn_11 rfl ?_
  refine zp_il2 (q := 13) dX11_votesIn_12 rfl ?_
  refine zf_callV1 (by first | assumption | exact k508) (s_X8_continues hro (hT.2.1.2 i hi.1 (by omega)).2) mtX8_continues wiX8_continues weX8_continues wlX11_168 (q := 16) dX11_votesIn_13 rfl rfl rfl rfl rfl rfl rfl (fun r S9 M9 h8 hP => ?_) (fun k S9 M9 hP => (z_no hP.1 rfl).elim)
  obtain ⟨rfl, rfl, h9⟩ := hP
  subst M9
  rw [hk.1 w hw.1 (by omega), if_pos ⟨hw.1, by omega, hv⟩]
  refine zr_if_ne (q := 29) (q2 := 19) dX11_votesIn_16 (by decide) rfl (fun h16 => ?_) (fun h16 => ?_)
  · refine zp_al3 (q := 30) dX11_votesIn_29 rfl ?_
    refine zf_getG (v := 490 + 2 * i + 1) 0 (by first | assumption | exact k508) ((hT.2.1.2 i hi.1 (by omega)).2) rfl fdX11_176 (q := 33) dX11_votesIn_30 rfl rfl ?_
    refine zp_il2 (q := 34) dX11_votesIn_33 rfl ?_
    refine zf_iald (v := zVr G i w) (ro1) (hk.1 w hw.1 (by omega)) (q := 35) dX11_votesIn_34 rfl (by omega) (by omega) ?_
    refine zr_ireturn dX11_votesIn_35 rfl (z_fit_i _) ?_
    exact ⟨rfl, rfl, hK⟩
  · exact absurd (by decide) h16
theorem s_X11_votesIn_x (Hw : zHw M) (R : zAR M 2 G) (hG : zWF G) {i : Int} {w : Int} (hw : ¬ (0 ≤ w ∧ w < G 0)) : z_Call mX11_votesIn zF [(1, 1), (0, i), (0, w)] M (zpF 8 0 M) := by
  refine z_enter (k := 1) rfl rfl rfl ?_
  refine zp_al0 (q := 1) dX11_votesIn_0 rfl ?_
  refine zp_il2 (q := 2) dX11_votesIn_1 rfl ?_
  refine zf_callV1 (k1) (s_X11_checkWind_x Hw R hG hw) mtX11_checkWind wiX11_checkWind weX11_checkWind wlX11_95 (q := 5) dX11_votesIn_2 rfl rfl rfl rfl rfl rfl rfl (fun r S9 M9 h8 hP => absurd (congrArg Prod.fst hP.1) h8) (fun k S9 M9 hP => ?_)
  obtain ⟨h8, rfl, h9⟩ := hP
  subst M9
  cases h8
  exact ⟨rfl, rfl, rfl⟩
theorem s_X11_votesIn_y (Hw : zHw M) (R : zAR M 2 G) (hG : zWF G) (Hc : zHc M) (Hp : zHp M) {i : Int} (hi : ¬ (0 ≤ i ∧ i < zRn G)) {w : Int} (hw : 0 ≤ w ∧ w < G 0) : z_Call mX11_votesIn zF [(1, 1), (0, i), (0, w)] M (fun r S' M' => r = (8, 4) ∧ S' = zF ∧ zKt M M') := by
  refine z_enter (k := 1) rfl rfl rfl ?_
  refine zp_al0 (q := 1) dX11_votesIn_0 rfl ?_
  refine zp_il2 (q := 2) dX11_votesIn_1 rfl ?_
  refine zf_callV1 (k1) (s_X11_checkWind Hw R hG hw) mtX11_checkWind wiX11_checkWind weX11_checkWind wlX11_95 (q := 5) dX11_votesIn_2 rfl rfl rfl rfl rfl rfl rfl (fun r S9 M9 h8 hP => ?_) (fun k S9 M9 hP => (z_no hP.1 rfl).elim)
  obtain ⟨rfl, rfl, h9⟩ := hP
  subst M9
  refine zp_al0 (q := 6) dX11_votesIn_5 rfl ?_
  refine zp_il1 (q := 7) dX11_votesIn_6 rfl ?_
  refine zf_callV1 (k1) (s_X11_roundNumbered_x Hw R hG Hc Hp hi) mtX11_roundNumbered wiX11_roundNumbered weX11_roundNumbered wlX11_164 (q := 10) dX11_votesIn_7 rfl rfl rfl rfl rfl rfl rfl (fun r S9 M9 h8 hP => absurd (congrArg Prod.fst hP.1) h8) (fun k S9 M9 hP => ?_)
  obtain ⟨h8, rfl, hT⟩ := hP
  cases h8
  have hK := hT.k Hp
  exact ⟨rfl, rfl, hK⟩
theorem s_X11_votesIn_z (Hw : zHw M) (R : zAR M 2 G) (hG : zWF G) (Hc : zHc M) (Hp : zHp M) {i : Int} (hi : 0 ≤ i ∧ i < zRn G) {w : Int} (hw : 0 ≤ w ∧ w < G 0) (hv : zVr G i w = -1) : z_Call mX11_votesIn zF [(1, 1), (0, i), (0, w)] M (fun r S' M' => r = (8, 4) ∧ S' = zF ∧ zKt M M') := by
  have h8 := zRn_le hG
  have hg := hG.w
  refine z_enter (k := 1) rfl rfl rfl ?_
  refine zp_al0 (q := 1) dX11_votesIn_0 rfl ?_
  refine zp_il2 (q := 2) dX11_votesIn_1 rfl ?_
  refine zf_callV1 (k1) (s_X11_checkWind Hw R hG hw) mtX11_checkWind wiX11_checkWind weX11_checkWind wlX11_95 (q := 5) dX11_votesIn_2 rfl rfl rfl rfl rfl rfl rfl (fun r S9 M9 h8 hP => ?_) (fun k S9 M9 hP => (z_no hP.1 rfl).elim)
  obtain ⟨rfl, rfl, h9⟩ := hP
  subst M9
  refine zp_al0 (q := 6) dX11_votesIn_5 rfl ?_
  refine zp_il1 (q := 7) dX11_votesIn_6 rfl ?_
  refine zf_callV1 (k1) (s_X11_roundNumbered Hw R hG Hc Hp hi) mtX11_roundNumbered wiX11_roundNumbered weX11_roundNumbered wlX11_164 (q := 10) dX11_votesIn_7 rfl rfl rfl rfl rfl rfl rfl (fun r S9 M9 h8 hP => ?_) (fun k S9 M9 hP => (z_no hP.1 rfl).elim)
  obtain ⟨rfl, rfl, hT⟩ := hP
  have HW := hT.hw Hw
  have RT := hT.ar hG as2 hG R
  have hK := hT.k Hp
  have hk := hT.r hG hi.1 hi.2
  have hro := ro490 (k := i) hi.1 (by omega)
  have ro := zRo_0 hro
  have ro1 := zRo_1 hro
  refine zp_as3 (q := 11) dX11_votesIn_10 rfl rfl rfl ?_
  refine zp_al3 (q := 12) dX11_votesIn_11 rfl ?_
  refine zp_il2 (q := 13) dX11_votesIn_12 rfl ?_
  refine zf_callV1 (by first | assumption | exact k508) (s_X8_continues hro (hT.2.1.2 i hi.1 (by omega)).2) mtX8_continues wiX8_continues weX8_continues wlX11_168 (q := 16) dX11_votesIn_13 rfl rfl rfl rfl rfl rfl rfl (fun r S9 M9 h8 hP => ?_) (fun k S9 M9 hP => (z_no hP.1 rfl).elim)
  obtain ⟨rfl, rfl, h9⟩ := hP
  subst M9
  rw [hk.1 w hw.1 (by omega), if_neg (fun c => c.2.2 hv)]
  refine zr_if_ne (q := 29) (q2 := 19) dX11_votesIn_16 (by decide) rfl (fun h16 => ?_) (fun h16 => ?_)
  · exact absurd rfl h16
  · refine zr_throwN (i := 12) th_4 rfl (by decide) rfl rfl dX11_votesIn_19 dX11_votesIn_22 dX11_votesIn_23 dX11_votesIn_25 dX11_votesIn_28 (by decide) rfl (by decide) (by decide) (by decide) ?_
    exact ⟨rfl, rfl, hK⟩
theorem s_X11_exhaustedIn (Hw : zHw M) (R : zAR M 2 G) (hG : zWF G) (Hc : zHc M) (Hp : zHp M) {i : Int} (hi : 0 ≤ i ∧ i < zRn G) : z_Call mX11_exhaustedIn zF [(1, 1), (0, i)] M (fun r S' M' => r = (0, zXk G (zA G i) (G 1)) ∧ S' = zF ∧ zKt M M') := by
  have h8 := zRn_le hG
  refine z_enter (k := 0) rfl rfl rfl ?_
  refine zp_al0 (q := 1) dX11_exhaustedIn_0 rfl ?_
  refine zp_il1 (q := 2) dX11_exhaustedIn_1 rfl ?_
  refine zf_callV1 (k1) (s_X11_roundNumbered Hw R hG Hc Hp hi) mtX11_roundNumbered wiX11_roundNumbered weX11_roundNumbered wlX11_164 (q := 5) dX11_exhaustedIn_2 rfl rfl rfl rfl rfl rfl rfl (fun r S9 M9 h8 hP => ?_) (fun k S9 M9 hP => (z_no hP.1 rfl).elim)
  obtain ⟨rfl, rfl, hT⟩ := hP
  have HW := hT.hw Hw
  have RT := hT.ar hG as2 hG R
  have hK := hT.k Hp
  have hk := hT.r hG hi.1 hi.2
  have hro := ro490 (k := i) hi.1 (by omega)
  have ro := zRo_0 hro
  have ro1 := zRo_1 hro
  refine zf_getG (v := zXk G (zA G i) (G 1)) 1 (ro) (hk.2.1) rfl fdX11_179 (q := 8) dX11_exhaustedIn_5 rfl rfl ?_
  refine zr_ireturn dX11_exhaustedIn_8 rfl (z_fit_i _) ?_
  exact ⟨rfl, rfl, hK⟩
theorem s_X11_exhaustedIn_x (Hw : zHw M) (R : zAR M 2 G) (hG : zWF G) (Hc : zHc M) (Hp : zHp M) {i : Int} (hi : ¬ (0 ≤ i ∧ i < zRn G)) : z_Call mX11_exhaustedIn zF [(1, 1), (0, i)] M (fun r S' M' => r = (8, 4) ∧ S' = zF ∧ zKt M M') := by
  refine z_enter (k := 0) rfl rfl rfl ?_
  refine zp_al0 (q := 1) dX11_exhaustedIn_0 rfl ?_
  refine zp_il1 (q := 2) dX11_exhaustedIn_1 rfl ?_
  refine zf_callV1 (k1) (s_X11_roundNumbered_x Hw R hG Hc Hp hi) mtX11_roundNumbered wiX11_roundNumbered weX11_roundNumbered wlX11_164 (q := 5) dX11_exhaustedIn_2 rfl rfl rfl rfl rfl rfl rfl (fun r S9 M9 h8 hP => absurd (congrArg Prod.fst hP.1) h8) (fun k S9 M9 hP => ?_)
  obtain ⟨h8, rfl, hT⟩ := hP
  cases h8
  have hK := hT.k Hp
  exact ⟨rfl, rfl, hK⟩
theorem s_X11_eliminatedIn (Hw : zHw M) (R : zAR M 2 G) (hG : zWF G) (Hc : zHc M) (Hp : zHp M) {i : Int} (hi : 0 ≤ i ∧ i < zRn G) (hl : zEl (zVr G i) (zP G i) ≠ -1) : z_Call mX11_eliminatedIn zF [(1, 1), (0, i)] M (fun r S' M' => r = (0, zEl (zVr G i) (zP G i)) ∧ S' = zF ∧ zKt M M') := by
  have h8 := zRn_le hG
  refine z_enter (k := 0) rfl rfl rfl ?_
  refine zp_al0 (q := 1) dX11_eliminatedIn_0 rfl ?_
  refine zp_il1 (q := 2) dX11_eliminatedIn_1 rfl ?_
  refine zf_callV1 (k1) (s_X11_roundNumbered Hw R hG Hc Hp hi) mtX11_roundNumbered wiX11_roundNumbered weX11_roundNumbered wlX11_164 (q := 5) dX11_eliminatedIn_2 rfl rfl rfl rfl rfl rfl rfl (fun r S9 M9 h8 hP => ?_) (fun k S9 M9 hP => (z_no hP.1 rfl).elim)
  obtain ⟨rfl, rfl, hT⟩ := hP
  have HW := hT.hw Hw
  have RT := hT.ar hG as2 hG R
  have hK := hT.k Hp
  have hk := hT.r hG hi.1 hi.2
  have hro := ro490 (k := i) hi.1 (by omega)
  have ro := zRo_0 hro
  have ro1 := zRo_1 hro
  refine zf_getG (v := zEl (zVr G i) (zP G i)) 3 (ro) (hk.2.2.2.1) rfl fdX11_182 (q := 8) dX11_eliminatedIn_5 rfl rfl ?_
  refine zp_callS1 (s_X11_found hl) mtX11_found wtX11_found wlX11_147 (q := 11) dX11_eliminatedIn_8 rfl rfl rfl rfl rfl (fun r S9 M9 h8 hP => ?_) (fun k S9 M9 hP => (z_no hP.1 rfl).elim)
  obtain ⟨rfl, rfl, h9⟩ := hP
  subst M9
  refine zr_ireturn dX11_eliminatedIn_11 rfl (z_fit_i _) ?_
  exact ⟨rfl, rfl, hK⟩
theorem s_X11_eliminatedIn_x (Hw : zHw M) (R : zAR M 2 G) (hG : zWF G) (Hc : zHc M) (Hp : zHp M) {i : Int} (hi : ¬ (0 ≤ i ∧ i < zRn G)) : z_Call mX11_eliminatedIn zF [(1, 1), (0, i)] M (fun r S' M' => r = (8, 4) ∧ S' = zF ∧ zKt M M') := by
  refine z_enter (k := 0) rfl rfl rfl ?_
  refine zp_al0 (q := 1) dX11_eliminatedIn_0 rfl ?_
  refine zp_il1 (q := 2) dX11_eliminatedIn_1 rfl ?_
  refine zf_callV1 (k1) (s_X11_roundNumbered_x Hw R hG Hc Hp hi) mtX11_roundNumbered wiX11_roundNumbered weX11_roundNumbered wlX11_164 (q := 5) dX11_eliminatedIn_2 rfl rfl rfl rfl rfl rfl rfl (fun r S9 M9 h8 hP => absurd (congrArg Prod.fst hP.1) h8) (fun k S9 M9 hP => ?_)
  obtain ⟨h8, rfl, hT⟩ := hP
  cases h8
  have hK := hT.k Hp
  exact ⟨rfl, rfl, hK⟩
theorem s_X11_eliminatedIn_y (Hw : zHw M) (R : zAR M 2 G) (hG : zWF G) (Hc : zHc M) (Hp : zHp M) {i : Int} (hi : 0 ≤ i ∧ i < zRn G) (hl : zEl (zVr G i) (zP G i) = -1) : z_Call mX11_eliminatedIn zF [(1, 1), (0, i)] M (fun r S' M' => r = (8, 4) ∧ S' = zF ∧ zKt M M') := by
  have h8 := zRn_le hG
  refine z_enter (k := 0) rfl rfl rfl ?_
  refine zp_al0 (q := 1) dX11_eliminatedIn_0 rfl ?_
  refine zp_il1 (q := 2) dX11_eliminatedIn_1 rfl ?_
  refine zf_callV1 (k1) (s_X11_roundNumbered Hw R hG Hc Hp hi) mtX11_roundNumbered wiX11_roundNumbered weX11_roundNumbered wlX11_164 (q := 5) dX11_eliminatedIn_2 rfl rfl rfl rfl rfl rfl rfl (fun r S9 M9 h8 hP => ?_) (fun k S9 M9 hP => (z_no hP.1 rfl).elim)
  obtain ⟨rfl, rfl, hT⟩ := hP
  have HW := hT.hw Hw
  have RT := hT.ar hG as2 hG R
  have hK := hT.k Hp
  have hk := hT.r hG hi.1 hi.2
  have hro := ro490 (k := i) hi.1 (by omega)
  have ro := zRo_0 hro
  have ro1 := zRo_1 hro
  refine zf_getG (v := zEl (zVr G i) (zP G i)) 3 (ro) (hk.2.2.2.1) rfl fdX11_182 (q := 8) dX11_eliminatedIn_5 rfl rfl ?_
  refine zp_callS1 (s_X11_found_x hl) mtX11_found wtX11_found wlX11_147 (q := 11) dX11_eliminatedIn_8 rfl rfl rfl rfl rfl (fun r S9 M9 h8 hP => absurd (congrArg Prod.fst hP.1) h8) (fun k S9 M9 hP => ?_)
  obtain ⟨h8, rfl, h9⟩ := hP
  subst M9
  cases h8
  exact ⟨rfl, rfl, hK⟩
theorem s_X11_isTieIn (Hw : zHw M) (R : zAR M 2 G) (hG : zWF G) (Hc : zHc M) (Hp : zHp M) {i : Int} (hi : 0 ≤ i ∧ i < zRn G) : z_Call mX11_isTieIn zF [(1, 1), (0, i)] M (fun r S' M' => r = (0, zTi (zVr G i)) ∧ S' = zF ∧ zKt M M') := by
  have h8 := zRn_le hG
  refine z_enter (k := 0) rfl rfl rfl ?_
  refine zp_al0 (q := 1) dX11_isTieIn_0 rfl ?_
  refine zp_il1 (q := 2) dX11_isTieIn_1 rfl ?_
  refine zf_callV1 (k1) (s_X11_roundNumbered Hw R hG Hc Hp hi) mtX11_roundNumbered wiX11_roundNumbered weX11_roundNumbered wlX11_164 (q := 5) dX11_isTieIn_2 rfl rfl rfl rfl rfl rfl rfl (fun r S9 M9 h8 hP => ?_) (fun k S9 M9 hP => (z_no hP.1 rfl).elim)
  obtain ⟨rfl, rfl, hT⟩ := hP
  have HW := hT.hw Hw
  have RT := hT.ar hG as2 hG R
  have hK := hT.k Hp
  have hk := hT.r hG hi.1 hi.2
  have hro := ro490 (k := i) hi.1 (by omega)
  have ro := zRo_0 hro
  have ro1 := zRo_1 hro
  refine zf_getG (v := zTi (zVr G i)) 4 (ro) (hk.2.2.2.2) rfl fdX11_185 (q := 8) dX11_isTieIn_5 rfl rfl ?_
  refine zr_ireturn dX11_isTieIn_8 rfl (z_fit_z (zTi_01 _)) ?_
  exact ⟨rfl, rfl, hK⟩
theorem s_X11_isTieIn_x (Hw : zHw M) (R : zAR M 2 G) (hG : zWF G) (Hc : zHc M) (Hp : zHp M) {i : Int} (hi : ¬ (0 ≤ i ∧ i < zRn G)) : z_Call mX11_isTieIn zF [(1, 1), (0, i)] M (fun r S' M' => r = (8, 4) ∧ S' = zF ∧ zKt M M') := by
  refine z_enter (k := 0) rfl rfl rfl ?_
  refine zp_al0 (q := 1) dX11_isTieIn_0 rfl ?_
  refine zp_il1 (q := 2) dX11_isTieIn_1 rfl ?_
  refine zf_callV1 (k1) (s_X11_roundNumbered_x Hw R hG Hc Hp hi) mtX11_roundNumbered wiX11_roundNumbered weX11_roundNumbered wlX11_164 (q := 5) dX11_isTieIn_2 rfl rfl rfl rfl rfl rfl rfl (fun r S9 M9 h8 hP => absurd (congrArg Prod.fst hP.1) h8) (fun k S9 M9 hP => ?_)
  obtain ⟨h8, rfl, hT⟩ := hP
  cases h8
  have hK := hT.k Hp
  exact ⟨rfl, rfl, hK⟩
theorem s_X11_roundOfElimination (Hw : zHw M) (R : zAR M 2 G) (hG : zWF G) (Hc : zHc M) (Hp : zHp M) {w : Int} (hw : 0 ≤ w ∧ w < G 0) (he : zRe G w ≠ -1) : z_Call mX11_roundOfElimination zF [(1, 1), (0, w)] M (fun r S' M' => r = (0, zRe G w) ∧ S' = zF ∧ zKt M M') := by
  refine z_enter (k := 0) rfl rfl rfl ?_
  refine zp_al0 (q := 1) dX11_roundOfElimination_0 rfl ?_
  refine zp_il1 (q := 2) dX11_roundOfElimination_1 rfl ?_
  refine zf_callV1 (k1) (s_X11_checkWind Hw R hG hw) mtX11_checkWind wiX11_checkWind weX11_checkWind wlX11_95 (q := 5) dX11_roundOfElimination_2 rfl rfl rfl rfl rfl rfl rfl (fun r S9 M9 h8 hP => ?_) (fun k S9 M9 hP => (z_no hP.1 rfl).elim)
  obtain ⟨rfl, rfl, h9⟩ := hP
  subst M9
  refine zp_al0 (q := 6) dX11_roundOfElimination_5 rfl ?_
  refine zf_getG (v := 488) 5 (k1) (Hw.co) rfl fdX11_36 (q := 9) dX11_roundOfElimination_6 rfl rfl ?_
  refine zp_al0 (q := 10) dX11_roundOfElimination_9 rfl ?_
  refine zf_getG (v := 2) 0 (k1) (Hw.as) rfl fdX11_10 (q := 13) dX11_roundOfElimination_10 rfl rfl ?_
  refine zf_callV1 (k488) (s_X3_take as2 R hG Hc) mtX3_take wiX3_take weX3_take wlX11_153 (q := 16) dX11_roundOfElimination_13 rfl rfl rfl rfl rfl rfl rfl (fun r S9 M9 h8 hP => ?_) (fun k S9 M9 hP => (z_no hP.1 rfl).elim)
  obtain ⟨rfl, rfl, hT⟩ := hP
  have HW := hT.hw Hw
  have RT := hT.ar hG as2 hG R
  have hK := hT.k Hp
  refine zp_al0 (q := 17) dX11_roundOfElimination_16 rfl ?_
  refine zf_getG (v := 488) 5 (k1) (HW.co) rfl fdX11_36 (q := 20) dX11_roundOfElimination_17 rfl rfl ?_
  refine zp_il1 (q := 21) dX11_roundOfElimination_20 rfl ?_
  refine zf_callV1 (k488) (s_X3_roundThatEliminates hT.2.1 hT.n hT.2.2.2.2.2 hG) mtX3_roundThatEliminates wiX3_roundThatEliminates weX3_roundThatEliminates wlX11_188 (q := 24) dX11_roundOfElimination_21 rfl rfl rfl rfl rfl rfl rfl (fun r S9 M9 h8 hP => ?_) (fun k S9 M9 hP => (z_no hP.1 rfl).elim)
  obtain ⟨rfl, rfl, h9⟩ := hP
  subst M9
  refine zp_callS1 (s_X11_found he) mtX11_found wtX11_found wlX11_147 (q := 27) dX11_roundOfElimination_24 rfl rfl rfl rfl rfl (fun r S9 M9 h8 hP => ?_) (fun k S9 M9 hP => (z_no hP.1 rfl).elim)
  obtain ⟨rfl, rfl, h9⟩ := hP
  subst M9
  refine zr_ireturn dX11_roundOfElimination_27 rfl (z_fit_i _) ?_
  exact ⟨rfl, rfl, hK⟩
theorem s_X11_roundOfElimination_x (Hw : zHw M) (R : zAR M 2 G) (hG : zWF G) {w : Int} (hw : ¬ (0 ≤ w ∧ w < G 0)) : z_Call mX11_roundOfElimination zF [(1, 1), (0, w)] M (zpF 8 0 M) := by
  refine z_enter (k := 0) rfl rfl rfl ?_
  refine zp_al0 (q := 1) dX11_roundOfElimination_0 rfl ?_
  refine zp_il1 (q := 2) dX11_roundOfElimination_1 rfl ?_
  refine zf_callV1 (k1) (s_X11_checkWind_x Hw R hG hw) mtX11_checkWind wiX11_checkWind weX11_checkWind wlX11_95 (q := 5) dX11_roundOfElimination_2 rfl rfl rfl rfl rfl rfl rfl (fun r S9 M9 h8 hP => absurd (congrArg Prod.fst hP.1) h8) (fun k S9 M9 hP => ?_)
  obtain ⟨h8, rfl, h9⟩ := hP
  subst M9
  cases h8
  exact ⟨rfl, rfl, rfl⟩
theorem s_X11_roundOfElimination_y (Hw : zHw M) (R : zAR M 2 G) (hG : zWF G) (Hc : zHc M) (Hp : zHp M) {w : Int} (hw : 0 ≤ w ∧ w < G 0) (he : zRe G w = -1) : z_Call mX11_roundOfElimination zF [(1, 1), (0, w)] M (fun r S' M' => r = (8, 4) ∧ S' = zF ∧ zKt M M') := by
  refine z_enter (k := 0) rfl rfl rfl ?_
  refine zp_al0 (q := 1) dX11_roundOfElimination_0 rfl ?_
  refine zp_il1 (q := 2) dX11_roundOfElimination_1 rfl ?_
  refine zf_callV1 (k1) (s_X11_checkWind Hw R hG hw) mtX11_checkWind wiX11_checkWind weX11_checkWind wlX11_95 (q := 5) dX11_roundOfElimination_2 rfl rfl rfl rfl rfl rfl rfl (fun r S9 M9 h8 hP => ?_) (fun k S9 M9 hP => (z_no hP.1 rfl).elim)
  obtain ⟨rfl, rfl, h9⟩ := hP
  subst M9
  refine zp_al0 (q := 6) dX11_roundOfElimination_5 rfl ?_
  refine zf_getG (v := 488) 5 (k1) (Hw.co) rfl fdX11_36 (q := 9) dX11_roundOfElimination_6 rfl rfl ?_
  refine zp_al0 (q := 10) dX11_roundOfElimination_9 rfl ?_
  refine zf_getG (v := 2) 0 (k1) (Hw.as) rfl fdX11_10 (q := 13) dX11_roundOfElimination_10 rfl rfl ?_
  refine zf_callV1 (k488) (s_X3_take as2 R hG Hc) mtX3_take wiX3_take weX3_take wlX11_153 (q := 16) dX11_roundOfElimination_13 rfl rfl rfl rfl rfl rfl rfl (fun r S9 M9 h8 hP => ?_) (fun k S9 M9 hP => (z_no hP.1 rfl).elim)
  obtain ⟨rfl, rfl, hT⟩ := hP
  have HW := hT.hw Hw
  have RT := hT.ar hG as2 hG R
  have hK := hT.k Hp
  refine zp_al0 (q := 17) dX11_roundOfElimination_16 rfl ?_
  refine zf_getG (v := 488) 5 (k1) (HW.co) rfl fdX11_36 (q := 20) dX11_roundOfElimination_17 rfl rfl ?_
  refine zp_il1 (q := 21) dX11_roundOfElimination_20 rfl ?_
  refine zf_callV1 (k488) (s_X3_roundThatEliminates hT.2.1 hT.n hT.2.2.2.2.2 hG) mtX3_roundThatEliminates wiX3_roundThatEliminates weX3_roundThatEliminates wlX11_188 (q := 24) dX11_roundOfElimination_21 rfl rfl rfl rfl rfl rfl rfl (fun r S9 M9 h8 hP => ?_) (fun k S9 M9 hP => (z_no hP.1 rfl).elim)
  obtain ⟨rfl, rfl, h9⟩ := hP
  subst M9
  refine zp_callS1 (s_X11_found_x he) mtX11_found wtX11_found wlX11_147 (q := 27) dX11_roundOfElimination_24 rfl rfl rfl rfl rfl (fun r S9 M9 h8 hP => absurd (congrArg Prod.fst hP.1) h8) (fun k S9 M9 hP => ?_)
  obtain ⟨h8, rfl, h9⟩ := hP
  subst M9
  cases h8
  exact ⟨rfl, rfl, hK⟩
theorem s_X11_isConsistent (Hw : zHw M) (R : zAR M 2 G) (hG : zWF G) (Hc : zHc M) (Hp : zHp M) : z_Call mX11_isConsistent zF [(1, 1)] M (fun r S' M' => r = (0, 1) ∧ S' = zF ∧ zKt M M') := by
  have h8 := zRn_le hG
  refine z_enter (k := 0) rfl rfl rfl ?_
  refine zp_al0 (q := 1) dX11_isConsistent_0 rfl ?_
  refine zf_getG (v := 488) 5 (k1) (Hw.co) rfl fdX11_36 (q := 4) dX11_isConsistent_1 rfl rfl ?_
  refine zp_al0 (q := 5) dX11_isConsistent_4 rfl ?_
  refine zf_getG (v := 2) 0 (k1) (Hw.as) rfl fdX11_10 (q := 8) dX11_isConsistent_5 rfl rfl ?_
  refine zf_callV1 (k488) (s_X3_take as2 R hG Hc) mtX3_take wiX3_take weX3_take wlX11_153 (q := 11) dX11_isConsistent_8 rfl rfl rfl rfl rfl rfl rfl (fun r S9 M9 h8 hP => ?_) (fun k S9 M9 hP => (z_no hP.1 rfl).elim)
  obtain ⟨rfl, rfl, hT⟩ := hP
  have HW := hT.hw Hw
  have RT := hT.ar hG as2 hG R
  have hK := hT.k Hp
  refine zp_al0 (q := 12) dX11_isConsistent_11 rfl ?_
  refine zf_getG (v := 488) 5 (k1) (HW.co) rfl fdX11_36 (q := 15) dX11_isConsistent_12 rfl rfl ?_
  refine zf_getG (v := zW G) 2 (k488) (hT.w) rfl fdX11_156 (q := 18) dX11_isConsistent_15 rfl rfl ?_
  refine zp_al0 (q := 19) dX11_isConsistent_18 rfl ?_
  refine zf_getG (v := 506) 6 (k1) (HW.pi) rfl fdX11_43 (q := 22) dX11_isConsistent_19 rfl rfl ?_
  refine zp_al0 (q := 23) dX11_isConsistent_22 rfl ?_
  refine zf_getG (v := 2) 0 (k1) (HW.as) rfl fdX11_10 (q := 26) dX11_isConsistent_23 rfl rfl ?_
  refine zf_callV1 (k506) (s_X6_elect as2 RT hG hK.2.2) mtX6_elect wiX6_elect weX6_elect wlX11_159 (q := 29) dX11_isConsistent_26 rfl rfl rfl rfl rfl rfl rfl (fun r S9 M9 h8 hP => ?_) (fun k S9 M9 hP => (z_no hP.1 rfl).elim)
  obtain ⟨rfl, rfl, y1, y2⟩ := hP
  have HE := HW.of (y1 1 (by decide) (by decide) (by decide))
  have RE := RT.of hG (fun z z0 z1 => y1 z (by omega) (by omega) (by omega))
  have hL := z_el hT.2.1 hK.2.2 y1 y2
  refine zr_icmp_ne (q := 70) (q2 := 32) dX11_isConsistent_29 (by decide) rfl (fun h29 => ?_) (fun h29 => ?_)
  · exact absurd rfl h29
  · refine zp_al0 (q := 33) dX11_isConsistent_32 rfl ?_
    refine zf_getG (v := 2) 0 (k1) (HE.as) rfl fdX11_10 (q := 36) dX11_isConsistent_33 rfl rfl ?_
    refine zf_callV0 (by first | assumption | exact k2 | exact k46 | exact k90) (s_X1_championAmongPairs as2 RE hG) mtX1_championAmongPairs wiX1_championAmongPairs weX1_championAmongPairs wlX11_219 (q := 39) dX11_isConsistent_36 rfl rfl rfl rfl rfl rfl rfl (fun r S9 M9 h8 hP => ?_) (fun k S9 M9 hP => (z_no hP.1 rfl).elim)
    obtain ⟨rfl, rfl, h9⟩ := hP
    subst M9
    refine zp_al0 (q := 40) dX11_isConsistent_39 rfl ?_
    refine zf_getG (v := 2) 0 (k1) (HE.as) rfl fdX11_10 (q := 43) dX11_isConsistent_40 rfl rfl ?_
    refine zf_callV0 (by first | assumption | exact k2 | exact k46 | exact k90) (s_X1_championAfterDuels as2 RE hG) mtX1_championAfterDuels wiX1_championAfterDuels weX1_championAfterDuels wlX11_222 (q := 46) dX11_isConsistent_43 rfl rfl rfl rfl rfl rfl rfl (fun r S9 M9 h8 hP => ?_) (fun k S9 M9 hP => (z_no hP.1 rfl).elim)
    obtain ⟨rfl, rfl, h9⟩ := hP
    subst M9
    refine zr_icmp_ne (q := 70) (q2 := 49) dX11_isConsistent_46 (by decide) rfl (fun h46 => ?_) (fun h46 => ?_)
    · exact absurd rfl h46
    · refine zp_al0 (q := 50) dX11_isConsistent_49 rfl ?_
      refine zf_getG (v := 488) 5 (k1) (HE.co) rfl fdX11_36 (q := 53) dX11_isConsistent_50 rfl rfl ?_
      refine zp_al0 (q := 54) dX11_isConsistent_53 rfl ?_
      refine zf_getG (v := 2) 0 (k1) (HE.as) rfl fdX11_10 (q := 57) dX11_isConsistent_54 rfl rfl ?_
      refine zf_callV0 (by first | assumption | exact k2 | exact k46 | exact k90) (s_X1_weightOfAll as2 RE hG) mtX1_weightOfAll wiX1_weightOfAll weX1_weightOfAll wlX11_150 (q := 60) dX11_isConsistent_57 rfl rfl rfl rfl rfl rfl rfl (fun r S9 M9 h8 hP => ?_) (fun k S9 M9 hP => (z_no hP.1 rfl).elim)
      obtain ⟨rfl, rfl, h9⟩ := hP
      subst M9
      refine zf_callV1 (k488) (s_X3_addsUpTo hL.2.1 (by rw [y1 488 (by decide) (by decide) (by decide)]; exact hT.n) (fun i a b => by have h9 := hT.r hG a b; unfold zRk1 at h9 ⊢; rw [y1 _ (by omega) (by omega) (by omega), y1 _ (by omega) (by omega) (by omega)]; exact h9) hG) mtX3_addsUpTo wiX3_addsUpTo weX3_addsUpTo wlX11_277 (q := 63) dX11_isConsistent_60 rfl rfl rfl rfl rfl rfl rfl (fun r S9 M9 h8 hP => ?_) (fun k S9 M9 hP => (z_no hP.1 rfl).elim)
      obtain ⟨rfl, rfl, h9⟩ := hP
      subst M9
      refine zr_if_eq (q := 70) (q2 := 66) dX11_isConsistent_63 (by decide) rfl (fun h63 => ?_) (fun h63 => ?_)
      · exact absurd h63 (by decide)
      · refine zr_iconst (q := 67) dX11_isConsistent_66 rfl (z_in_of rfl) ?_
        refine zr_goto (q := 71) dX11_isConsistent_67 (by decide) ?_
        refine zr_ireturn dX11_isConsistent_71 rfl (z_fit_z (by decide)) ?_
        exact ⟨rfl, rfl, fun z hz => (hL.1 z hz).trans (hK.1 z hz), hL.2⟩
theorem s_X11_seatWinner_x (Hw : zHw M) (R : zAR M 2 G) (hG : zWF G) (Hc : zHc M) (Hp : zHp M) (hs : zSt G = 0) : z_Call mX11_seatWinner zF [(1, 1)] M (fun r S' M' => r = (1, -10) ∧ S' = zF ∧ zKt M M') := by
  refine z_enter (k := 0) rfl rfl rfl ?_
  refine zp_al0 (q := 1) dX11_seatWinner_0 rfl ?_
  refine zf_getG (v := 488) 5 (k1) (Hw.co) rfl fdX11_36 (q := 4) dX11_seatWinner_1 rfl rfl ?_
  refine zp_al0 (q := 5) dX11_seatWinner_4 rfl ?_
  refine zf_getG (v := 2) 0 (k1) (Hw.as) rfl fdX11_10 (q := 8) dX11_seatWinner_5 rfl rfl ?_
  refine zf_callV1 (k488) (s_X3_take as2 R hG Hc) mtX3_take wiX3_take weX3_take wlX11_153 (q := 11) dX11_seatWinner_8 rfl rfl rfl rfl rfl rfl rfl (fun r S9 M9 h8 hP => ?_) (fun k S9 M9 hP => (z_no hP.1 rfl).elim)
  obtain ⟨rfl, rfl, hT⟩ := hP
  have HW := hT.hw Hw
  have RT := hT.ar hG as2 hG R
  have hK := hT.k Hp
  refine zp_al0 (q := 12) dX11_seatWinner_11 rfl ?_
  refine zf_getG (v := 2) 0 (k1) (HW.as) rfl fdX11_10 (q := 15) dX11_seatWinner_12 rfl rfl ?_
  refine zp_al0 (q := 16) dX11_seatWinner_15 rfl ?_
  refine zf_getG (v := 488) 5 (k1) (HW.co) rfl fdX11_36 (q := 19) dX11_seatWinner_16 rfl rfl ?_
  refine zf_getG (v := -1) 2 (k488) (hT.w.trans ((zW_neg hG).mpr hs)) rfl fdX11_156 (q := 22) dX11_seatWinner_19 rfl rfl ?_
  refine zf_callV1 (by first | assumption | exact k2 | exact k46 | exact k90) (s_X1_hasWind as2 RT) mtX1_hasWind wiX1_hasWind weX1_hasWind wlX11_318 (q := 25) dX11_seatWinner_22 rfl rfl rfl rfl rfl rfl rfl (fun r S9 M9 h8 hP => ?_) (fun k S9 M9 hP => (z_no hP.1 rfl).elim)
  obtain ⟨rfl, rfl, h9⟩ := hP
  subst M9
  rw [if_neg (by omega)]
  refine zr_if_ne (q := 32) (q2 := 28) dX11_seatWinner_25 (by decide) rfl (fun h25 => ?_) (fun h25 => ?_)
  · exact absurd rfl h25
  · refine zr_gets (v := (1, -10)) (Cn := "WindElection$Fault") (n := "NOBODY_STANDS") (d := "LWindElection$Fault;") (fun C s h => zs_F 9 (by decide) h) (fun _ => z_in_of rfl) (z_all_in (i := 1006) (by decide +kernel) (by decide +kernel)) dX11_seatWinner_28 rfl ?_
    refine zr_areturn dX11_seatWinner_31 rfl (Or.inl ⟨_, rfl⟩) ?_
    exact ⟨rfl, rfl, hK⟩
theorem s_X11_seatWinner (Hw : zHw M) (R : zAR M 2 G) (hG : zWF G) (Hc : zHc M) (Hp : zHp M) (hs : zSt G ≠ 0) : z_Call mX11_seatWinner zF [(1, 1)] M (fun r S' M' => r = (1, -1) ∧ S' = zF ∧ zAR M' 2 (gCert G) ∧ (∀ z, z < 2 ∨ 46 ≤ z → z < 488 ∨ 509 < z → M' z = M z) ∧ zHc M' ∧ zHp M' ∧ M' 488 2 = zW G) := by
  have hst := zSt_range hG
  have hw := zW_range hG (by omega)
  refine z_enter (k := 0) rfl rfl rfl ?_
  refine zp_al0 (q := 1) dX11_seatWinner_0 rfl ?_
  refine zf_getG (v := 488) 5 (k1) (Hw.co) rfl fdX11_36 (q := 4) dX11_seatWinner_1 rfl rfl ?_
  refine zp_al0 (q := 5) dX11_seatWinner_4 rfl ?_
  refine zf_getG (v := 2) 0 (k1) (Hw.as) rfl fdX11_10 (q := 8) dX11_seatWinner_5 rfl rfl ?_
  refine zf_callV1 (k488) (s_X3_take as2 R hG Hc) mtX3_take wiX3_take weX3_take wlX11_153 (q := 11) dX11_seatWinner_8 rfl rfl rfl rfl rfl rfl rfl (fun r S9 M9 h8 hP => ?_) (fun k S9 M9 hP => (z_no hP.1 rfl).elim)
  obtain ⟨rfl, rfl, hT⟩ := hP
  have HW := hT.hw Hw
  have RT := hT.ar hG as2 hG R
  have hK := hT.k Hp
  have ex : ∃ M1, M1 = M9 := ⟨M9, rfl⟩
  obtain ⟨M1, e1⟩ := ex
  rw [← e1] at hT HW RT hK ⊢
  clear e1 M9
  refine zp_al0 (q := 12) dX11_seatWinner_11 rfl ?_
  refine zf_getG (v := 2) 0 (k1) (HW.as) rfl fdX11_10 (q := 15) dX11_seatWinner_12 rfl rfl ?_
  refine zp_al0 (q := 16) dX11_seatWinner_15 rfl ?_
  refine zf_getG (v := 488) 5 (k1) (HW.co) rfl fdX11_36 (q := 19) dX11_seatWinner_16 rfl rfl ?_
  refine zf_getG (v := zW G) 2 (k488) (hT.w) rfl fdX11_156 (q := 22) dX11_seatWinner_19 rfl rfl ?_
  refine zf_callV1 (by first | assumption | exact k2 | exact k46 | exact k90) (s_X1_hasWind as2 RT) mtX1_hasWind wiX1_hasWind weX1_hasWind wlX11_318 (q := 25) dX11_seatWinner_22 rfl rfl rfl rfl rfl rfl rfl (fun r S9 M9 h8 hP => ?_) (fun k S9 M9 hP => (z_no hP.1 rfl).elim)
  obtain ⟨rfl, rfl, h9⟩ := hP
  subst M9
  rw [if_pos ⟨hw.1, hw.2.1⟩]
  refine zr_if_ne (q := 32) (q2 := 28) dX11_seatWinner_25 (by decide) rfl (fun h25 => ?_) (fun h25 => ?_)
  · refine zp_al0 (q := 33) dX11_seatWinner_32 rfl ?_
    refine zf_getG (v := 2) 0 (k1) (HW.as) rfl fdX11_10 (q := 36) dX11_seatWinner_33 rfl rfl ?_
    refine zp_al0 (q := 37) dX11_seatWinner_36 rfl ?_
    refine zf_getG (v := 488) 5 (k1) (HW.co) rfl fdX11_36 (q := 40) dX11_seatWinner_37 rfl rfl ?_
    refine zf_getG (v := zW G) 2 (k488) (hT.w) rfl fdX11_156 (q := 43) dX11_seatWinner_40 rfl rfl ?_
    refine zf_callV1 (by first | assumption | exact k2 | exact k46 | exact k90) (s_X1_giveSeat as2 RT hG hw.1 hw.2.1 hw.2.2) mtX1_giveSeat wiX1_giveSeat weX1_giveSeat wlX11_368 (q := 46) dX11_seatWinner_43 rfl rfl rfl rfl rfl rfl rfl (fun r S9 M9 h8 hP => ?_) (fun k S9 M9 hP => (z_no hP.1 rfl).elim)
    obtain ⟨rfl, rfl, R9, F9⟩ := hP
    have HW9 := HW.of (F9 1 (by omega))
    refine zp_al0 (q := 47) dX11_seatWinner_46 rfl ?_
    refine zf_getG (v := 2) 0 (k1) (HW9.as) rfl fdX11_10 (q := 50) dX11_seatWinner_47 rfl rfl ?_
    refine zp_al0 (q := 51) dX11_seatWinner_50 rfl ?_
    refine zf_getG (v := 488) 5 (k1) (HW9.co) rfl fdX11_36 (q := 54) dX11_seatWinner_51 rfl rfl ?_
    refine zf_getG (v := zP G (zRn G)) 3 (k488) (by rw [F9 488 (by omega)]; exact hT.s) rfl fdX11_371 (q := 57) dX11_seatWinner_54 rfl rfl ?_
    refine zf_putG 6 (by first | assumption | exact k2 | exact k46 | exact k90) rfl fpX11_234 (q := 60) dX11_seatWinner_57 rfl rfl (by decide) (z_fit_i _) ?_
    refine zr_gets (v := (1, -1)) (Cn := "WindElection$Fault") (n := "NONE") (d := "LWindElection$Fault;") (fun C s h => zs_F 0 (by decide) h) (fun _ => z_in_of rfl) (z_all_in (i := 1012) (by decide +kernel) (by decide +kernel)) dX11_seatWinner_60 rfl ?_
    refine zr_areturn dX11_seatWinner_63 rfl (Or.inl ⟨_, rfl⟩) ?_
    refine ⟨rfl, rfl, R9.spin (hG.give hw.1 hw.2.1 hw.2.2), fun z a b => by rw [z_up_ne (by omega), F9 z (by omega)]; exact hK.1 z b, ⟨by rw [z_up_ne (by decide), F9 488 (by omega)]; exact hK.2.1.1, fun k k0 k1 => by rw [z_up_ne (by decide), F9 489 (by omega), z_up_ne (by omega), F9 _ (by omega)]; exact hK.2.1.2 k k0 k1⟩, ?_, by rw [z_up_ne (by decide), F9 488 (by omega)]; exact hT.w⟩
    unfold zHp
    rw [z_up_ne (by decide), z_up_ne (by decide), F9 506 (by omega), F9 508 (by omega)]
    exact hK.2.2
  · exact absurd (by decide) h25
def zCc (M M' : zM) (G G' : Int → Int) : Prop := zAR M' 2 G' ∧ zHa M' 46 ∧ zRm M M' G ∧ zHc M' ∧ zHp M' ∧ ∀ z, z < 2 ∨ 90 ≤ z → z ≠ 134 → z < 136 + 44 * zNx M ∨ 180 + 44 * zNx M ≤ z → z < 488 ∨ 509 < z → M' z = M z
theorem zHc.of {M' : zM} (h : zHc M) (e : ∀ z, 488 ≤ z → z ≤ 509 → M' z = M z) : zHc M' := ⟨by rw [e 488 (by omega) (by omega)]; exact h.1, fun k k0 k1 => by rw [e 489 (by omega) (by omega), e _ (by omega) (by omega)]; exact h.2 k k0 k1⟩
theorem zHp.of {M' : zM} (h : zHp M) (e : ∀ z, 488 ≤ z → z ≤ 509 → M' z = M z) : zHp M' := by
  unfold zHp
  rw [e 506 (by omega) (by omega), e 508 (by omega) (by omega)]
  exact h
theorem s_X11_certify_x (Hw : zHw M) (Hb : zHa M 46) (R : zAR M 2 G) (hG : zWF G) (Hc : zHc M) (Hp : zHp M) (hs : zSt G = 0) : z_Call mX11_certify zF [(1, 1)] M (fun r S' M' => r = (8, 4) ∧ S' = zF ∧ zAR M' 2 G ∧ zHa M' 46 ∧ zHc M' ∧ zHp M' ∧ ∀ z, z < 2 ∨ 90 ≤ z → z < 488 ∨ 509 < z → M' z = M z) := by
  refine z_enter (k := 0) rfl rfl rfl ?_
  refine zp_al0 (q := 1) dX11_certify_0 rfl ?_
  refine zf_getG (v := 46) 1 (k1) (Hw.be) rfl fdX11_16 (q := 4) dX11_certify_1 rfl rfl ?_
  refine zp_al0 (q := 5) dX11_certify_4 rfl ?_
  refine zf_getG (v := 2) 0 (k1) (Hw.as) rfl fdX11_10 (q := 8) dX11_certify_5 rfl rfl ?_
  refine zf_callV1 (by first | assumption | exact k2 | exact k46 | exact k90) (s_before Hb R hG) mtX1_copyFrom wiX1_copyFrom weX1_copyFrom wlX11_72 (q := 11) dX11_certify_8 rfl rfl rfl rfl rfl rfl rfl (fun r S9 M9 h8 hP => ?_) (fun k S9 M9 hP => (z_no hP.1 rfl).elim)
  obtain ⟨rfl, rfl, R1, F1⟩ := hP
  have Hw1 : zHw M9 := Hw.of (F1 1 (by omega))
  have R2 := R.of hG (fun z z0 z1 => F1 z (by omega))
  refine zp_al0 (q := 12) dX11_certify_11 rfl ?_
  refine zp_al0 (q := 13) dX11_certify_12 rfl ?_
  refine zf_callV0 (k1) (s_X11_seatWinner_x Hw1 R2 hG (Hc.of (fun z a b => F1 z (by omega))) (Hp.of (fun z a b => F1 z (by omega))) hs) mtX11_seatWinner wiX11_seatWinner weX11_seatWinner wlX11_237 (q := 16) dX11_certify_13 rfl rfl rfl rfl rfl rfl rfl (fun r S9 M9 h8 hP => ?_) (fun k S9 M9 hP => (z_no hP.1 rfl).elim)
  obtain ⟨rfl, rfl, hK⟩ := hP
  refine zf_callV1 (k1) (s_X11_settle_9) mtX11_settle wiX11_settle weX11_settle wlX11_80 (q := 19) dX11_certify_16 rfl rfl rfl rfl rfl rfl rfl (fun r S9 M9 h8 hP => absurd (congrArg Prod.fst hP.1) h8) (fun k S9 M9 hP => ?_)
  obtain ⟨h8, rfl, h9⟩ := hP
  subst M9
  cases h8
  exact ⟨rfl, rfl, R2.of hG (fun z a b => hK.1 z (by omega)), R1.h.of (fun z a b => hK.1 z (by omega)), hK.2.1, hK.2.2, fun z a b => (hK.1 z b).trans (F1 z (by omega))⟩
theorem s_X11_certify (Hw : zHw M) (Hb : zHa M 46) (Hh : zHh M) (R : zAR M 2 G) (hG : zWF G) (Hc : zHc M) (Hp : zHp M) (hs : zSt G ≠ 0) : z_Call mX11_certify zF [(1, 1)] M (fun r S' M' => r = (0, zW G) ∧ S' = zF ∧ zCc M M' G (gCert G)) := by
  have hp0 := zNx_range Hh
  refine z_enter (k := 0) rfl rfl rfl ?_
  refine zp_al0 (q := 1) dX11_certify_0 rfl ?_
  refine zf_getG (v := 46) 1 (k1) (Hw.be) rfl fdX11_16 (q := 4) dX11_certify_1 rfl rfl ?_
  refine zp_al0 (q := 5) dX11_certify_4 rfl ?_
  refine zf_getG (v := 2) 0 (k1) (Hw.as) rfl fdX11_10 (q := 8) dX11_certify_5 rfl rfl ?_
  refine zf_callV1 (by first | assumption | exact k2 | exact k46 | exact k90) (s_before Hb R hG) mtX1_copyFrom wiX1_copyFrom weX1_copyFrom wlX11_72 (q := 11) dX11_certify_8 rfl rfl rfl rfl rfl rfl rfl (fun r S9 M9 h8 hP => ?_) (fun k S9 M9 hP => (z_no hP.1 rfl).elim)
  obtain ⟨rfl, rfl, R1, F1⟩ := hP
  have Hw1 : zHw M9 := Hw.of (F1 1 (by omega))
  have R2 := R.of hG (fun z z0 z1 => F1 z (by omega))
  have ex : ∃ M1, M1 = M9 := ⟨M9, rfl⟩
  obtain ⟨M1, e1⟩ := ex
  rw [← e1] at R1 F1 Hw1 R2 ⊢
  clear e1 M9
  refine zp_al0 (q := 12) dX11_certify_11 rfl ?_
  refine zp_al0 (q := 13) dX11_certify_12 rfl ?_
  refine zf_callV0 (k1) (s_X11_seatWinner Hw1 R2 hG (Hc.of (fun z a b => F1 z (by omega))) (Hp.of (fun z a b => F1 z (by omega))) hs) mtX11_seatWinner wiX11_seatWinner weX11_seatWinner wlX11_237 (q := 16) dX11_certify_13 rfl rfl rfl rfl rfl rfl rfl (fun r S9 M9 h8 hP => ?_) (fun k S9 M9 hP => (z_no hP.1 rfl).elim)
  obtain ⟨rfl, rfl, R3, F3, y1, y2, y3⟩ := hP
  have Hw2 : zHw M9 := Hw1.of (F3 1 (by omega) (by omega))
  have ex : ∃ M2, M2 = M9 := ⟨M9, rfl⟩
  obtain ⟨M2, e2⟩ := ex
  rw [← e2] at R3 F3 y1 y2 y3 Hw2 ⊢
  clear e2 M9
  refine zf_callV1 (k1) (s_X11_settle Hw2 (Hh.of (fun z z0 z1 => (F3 z (by omega) (by omega)).trans (F1 z (by omega)))) (R1.of hG (fun z z0 z1 => F3 z (by omega) (by omega))) hG) mtX11_settle wiX11_settle weX11_settle wlX11_80 (q := 19) dX11_certify_16 rfl rfl rfl rfl rfl rfl rfl (fun r S9 M9 h8 hP => ?_) (fun k S9 M9 hP => (z_no hP.1 rfl).elim)
  obtain ⟨rfl, rfl, x1, x2⟩ := hP
  have en : zNx M2 = zNx M := by unfold zNx; rw [F3 134 (by omega) (by omega), F1 134 (by omega)]
  rw [en] at x2
  refine zp_al0 (q := 20) dX11_certify_19 rfl ?_
  refine zf_getG (v := 488) 5 (k1) ((Hw2.of (x2 1 (by decide) (by omega))).co) rfl fdX11_36 (q := 23) dX11_certify_20 rfl rfl ?_
  refine zf_getG (v := zW G) 2 (k488) (by rw [x2 488 (by decide) (by omega)]; exact y3) rfl fdX11_156 (q := 26) dX11_certify_23 rfl rfl ?_
  refine zr_ireturn dX11_certify_26 rfl (z_fit_i _) ?_
  refine ⟨rfl, rfl, R3.of (hG.cert hs) (fun z z0 z1 => x2 z (by omega) (by omega)), R1.h.of (fun z z0 z1 => (x2 z (by omega) (by omega)).trans (F3 z (by omega) (by omega))), ?_, y1.of (fun z a b => x2 z (by omega) (by omega)), y2.of (fun z a b => x2 z (by omega) (by omega)), fun z a b c d => (x2 z b c).trans ((F3 z (by omega) d).trans (F1 z (by omega)))⟩
  unfold zRm at x1 ⊢
  rw [en, F3 134 (by omega) (by omega), F1 134 (by omega)] at x1
  exact x1
end ZCL
