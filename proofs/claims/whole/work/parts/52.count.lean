/-! dep: 50 51 -/
/-! ===== WindElection$Round's ballots; WindElection$Count ===== -/
theorem zSm_congr {V W : Int → Int} (h : ∀ w, 0 ≤ w → w < 8 → V w = W w) : zSm V = zSm W := zU_congr (by omega) (fun k k0 k1 => by rw [h k k0 k1])
theorem zCn_congr {V W : Int → Int} (h : ∀ w, 0 ≤ w → w < 8 → V w = W w) : zCn V = zCn W := zU_congr (by omega) (fun k k0 k1 => by rw [h k k0 k1])
theorem zWn_congr {V W : Int → Int} (h : ∀ w, 0 ≤ w → w < 8 → V w = W w) : zWn V = zWn W := by
  unfold zWn
  exact zFs_congr (fun j j0 j1 => by rw [h j j0 j1, zSm_congr h, zCn_congr h])
theorem zFw_congr {V W : Int → Int} (h : ∀ w, 0 ≤ w → w < 8 → V w = W w) : zFw V = zFw W :=
  zU_ind (P := fun k => k ≤ 8 → zFwk V k = zFwk W k) (n := 8) (by omega) (fun _ => rfl) (fun k k0 k1 ih _ => by rw [zFwk_s _ k0, zFwk_s _ k0, ih (by omega), h k k0 k1]) (by omega)
theorem zCnt_congr {V W : Int → Int} (h : ∀ w, 0 ≤ w → w < 8 → V w = W w) (m : Int) {k : Int} (h0 : 0 ≤ k) (h1 : k ≤ 8) : zCnt V m k = zCnt W m k := zU_congr h0 (fun j j0 j1 => by rw [h j j0 (by omega)])
theorem zNth_congr {V W : Int → Int} (h : ∀ w, 0 ≤ w → w < 8 → V w = W w) (m i : Int) : zNth V m i = zNth W m i := by
  unfold zNth
  exact zFs_congr (fun j j0 j1 => by rw [h j j0 j1, zCnt_congr h m j0 (by omega)])
theorem zWc_congr {V W : Int → Int} (h : ∀ w, 0 ≤ w → w < 8 → V w = W w) : zWc V = zWc W := by
  unfold zWc
  rw [zFw_congr h, zCnt_congr h _ (by omega) (by omega)]
theorem zTi_congr {V W : Int → Int} (h : ∀ w, 0 ≤ w → w < 8 → V w = W w) : zTi V = zTi W := by
  unfold zTi
  rw [zWn_congr h, zWc_congr h]
theorem zSn_congr {V W : Int → Int} (h : ∀ w, 0 ≤ w → w < 8 → V w = W w) (s : Int) : zSn V s = zSn W s := by
  unfold zSn
  rw [zWn_congr h, zWc_congr h]
theorem zEl_congr {V W : Int → Int} (h : ∀ w, 0 ≤ w → w < 8 → V w = W w) (s : Int) : zEl V s = zEl W s := by
  unfold zEl
  rw [zWn_congr h, zWc_congr h, zFw_congr h, zNth_congr h]
section ZCO
variable {M : zM} {a r : Int} {G : Int → Int} {A : Int → Bool}
theorem zRo_rng (hr : zRo r) : 490 ≤ r ∧ r ≤ 508 ∧ r % 2 = 0 := by
  unfold zRo at hr
  omega
theorem zAs_rng (ha : zAs a) : 2 ≤ a ∧ a + 44 ≤ 488 := by
  unfold zAs at ha
  omega
theorem s_X8_openFirst_l (hr : zRo r) (ha : zAs a) (R : zAR M a G) (hG : zWF G) (hp : M r 0 = r + 1) {bc bs : Nat} : ∀ (m : Nat) (k : Int), 0 ≤ k → k ≤ 8 → 8 - k < m →
    z_Ex mX8_openFirst zF 2 [(1, r), (1, a), (0, k)] [] (zRow M (r + 1) (zVk G (zA0 G) 0) k) bc bs (zpF 9 0 (z_up (zRow M (r + 1) (zVk G (zA0 G) 0) 8) r 1 0)) := by
  have o0 := zRo_0 hr
  have o1 := zRo_1 hr
  have p0 := zAs_0 ha
  have p1 := zAs_1 ha
  have hw := hG.w
  have rr := zRo_rng hr
  have ra := zAs_rng ha
  intro m
  induction m with
  | zero => intro k h0 h1 h2; omega
  | succ m ih =>
    intro k h0 h1 h2
    have R' : zAR (zRow M (r + 1) (zVk G (zA0 G) 0) k) a G := R.of hG (fun z z0 z1 => zRow_ne _ _ _ _ (by omega))
    have e := ih (k + 1) (by omega)
    rw [← zRow_s _ _ _ h0] at e
    refine zp_il2 (q := 3) dX8_openFirst_2 rfl ?_
    refine zr_bipush (q := 5) dX8_openFirst_3 rfl (z_in_of rfl) (by decide +kernel) ?_
    refine zr_icmp_ge (q := 42) (q2 := 8) dX8_openFirst_5 (by decide) rfl (fun h5 => ?_) (fun h5 => ?_)
    · refine zp_al0 (q := 43) dX8_openFirst_42 rfl ?_
      refine zr_iconst (q := 44) dX8_openFirst_43 rfl (z_in_of rfl) ?_
      refine zf_putG 1 (by first | assumption | exact k508) rfl fpX8_15 (q := 47) dX8_openFirst_44 rfl rfl (by decide) (z_fit_i _) ?_
      refine zr_return dX8_openFirst_47 rfl ?_
      have e8 : k = 8 := by omega
      subst e8
      exact ⟨rfl, rfl, rfl⟩
    · refine zp_al0 (q := 9) dX8_openFirst_8 rfl ?_
      refine zf_getG (v := r + 1) 0 (by first | assumption | exact k508) (by rw [zRow_ne _ _ _ _ (by omega)]; exact hp) rfl fdX8_9 (q := 12) dX8_openFirst_9 rfl rfl ?_
      refine zp_il2 (q := 13) dX8_openFirst_12 rfl ?_
      refine zp_al1 (q := 14) dX8_openFirst_13 rfl ?_
      refine zp_il2 (q := 15) dX8_openFirst_14 rfl ?_
      refine zf_callV1 (by first | assumption | exact k2 | exact k46 | exact k90) (s_X1_hasWind ha R') mtX1_hasWind wiX1_hasWind weX1_hasWind wlX8_29 (q := 18) dX8_openFirst_15 rfl rfl rfl rfl rfl rfl rfl (fun r S9 M9 h8 hP => ?_) (fun k S9 M9 hP => (z_no hP.1 rfl).elim)
      obtain ⟨rfl, rfl, h9⟩ := hP
      subst M9
      refine zr_if_eq (q := 34) (q2 := 21) dX8_openFirst_18 (by decide) rfl (fun h18 => ?_) (fun h18 => ?_)
      · refine zr_iconst (q := 35) dX8_openFirst_34 rfl (z_in_of rfl) ?_
        refine zf_iast (by first | assumption | exact k518 | exact k519 | exact k520 | exact k521 | exact k522 | exact k523 | exact k524 | exact k525 | exact k526 | exact k527 | exact k528 | exact k510 | exact k512 | exact k515 | exact k516 | exact k507 | exact k509 | exact k135 | exact k489 | exact k529 | exact k530) (q := 36) dX8_openFirst_35 rfl (by omega) (by omega) ?_
        refine zp_inc2 (q := 39) dX8_openFirst_36 rfl rfl rfl (fun hA => by unfold z_in at hA ⊢; omega) ?_
        refine zr_goto (q := 2) dX8_openFirst_39 (by decide) ?_
        first
        | (rw [show zVk G (zA0 G) 0 k = 0 by rw [zVk_0, if_pos (show zA0 G k = true from decide_eq_true ⟨hk.1, hk.2, Classical.byContradiction fun n => h27 (if_neg n)⟩)]] at e; exact e (by omega) (by omega))
        | (rw [show zVk G (zA0 G) 0 k = -1 by rw [zVk_0, if_neg (show ¬ zA0 G k = true from fun c => absurd ((if_pos (of_decide_eq_true c).2.2).symm.trans h27) (by decide))]] at e; exact e (by omega) (by omega))
        | (rw [show zVk G (zA0 G) 0 k = -1 by rw [zVk_0, if_neg (show ¬ zA0 G k = true from fun c => absurd ((if_pos ⟨(of_decide_eq_true c).1, (of_decide_eq_true c).2.1⟩).symm.trans h18) (by decide))]] at e; exact e (by omega) (by omega))
      · have hk : 0 ≤ k ∧ k < G 0 := Classical.byContradiction fun n => h18 (if_neg n)
        refine zp_al1 (q := 22) dX8_openFirst_21 rfl ?_
        refine zf_getG (v := a + 1) 1 (by first | assumption | exact k2 | exact k46 | exact k90) (R'.h.p1) rfl fdX8_35 (q := 25) dX8_openFirst_22 rfl rfl ?_
        refine zp_il2 (q := 26) dX8_openFirst_25 rfl ?_
        refine zf_zald (v := if G (4 + k) = 0 then 1 else 0) (by first | assumption | exact k518 | exact k519 | exact k520 | exact k521 | exact k522 | exact k523 | exact k524 | exact k525 | exact k526 | exact k527 | exact k528 | exact k510 | exact k512 | exact k515 | exact k516 | exact k507 | exact k509 | exact k135 | exact k489 | exact k529 | exact k530) (R'.st hk.1 hk.2) (q := 27) dX8_openFirst_26 rfl (by omega) (by omega) ?_
        refine zr_if_eq (q := 34) (q2 := 30) dX8_openFirst_27 (by decide) rfl (fun h27 => ?_) (fun h27 => ?_)
        · refine zr_iconst (q := 35) dX8_openFirst_34 rfl (z_in_of rfl) ?_
          refine zf_iast (by first | assumption | exact k518 | exact k519 | exact k520 | exact k521 | exact k522 | exact k523 | exact k524 | exact k525 | exact k526 | exact k527 | exact k528 | exact k510 | exact k512 | exact k515 | exact k516 | exact k507 | exact k509 | exact k135 | exact k489 | exact k529 | exact k530) (q := 36) dX8_openFirst_35 rfl (by omega) (by omega) ?_
          refine zp_inc2 (q := 39) dX8_openFirst_36 rfl rfl rfl (fun hA => by unfold z_in at hA ⊢; omega) ?_
          refine zr_goto (q := 2) dX8_openFirst_39 (by decide) ?_
          first
          | (rw [show zVk G (zA0 G) 0 k = 0 by rw [zVk_0, if_pos (show zA0 G k = true from decide_eq_true ⟨hk.1, hk.2, Classical.byContradiction fun n => h27 (if_neg n)⟩)]] at e; exact e (by omega) (by omega))
          | (rw [show zVk G (zA0 G) 0 k = -1 by rw [zVk_0, if_neg (show ¬ zA0 G k = true from fun c => absurd ((if_pos (of_decide_eq_true c).2.2).symm.trans h27) (by decide))]] at e; exact e (by omega) (by omega))
          | (rw [show zVk G (zA0 G) 0 k = -1 by rw [zVk_0, if_neg (show ¬ zA0 G k = true from fun c => absurd ((if_pos ⟨(of_decide_eq_true c).1, (of_decide_eq_true c).2.1⟩).symm.trans h18) (by decide))]] at e; exact e (by omega) (by omega))
        · refine zr_iconst (q := 31) dX8_openFirst_30 rfl (z_in_of rfl) ?_
          refine zr_goto (q := 35) dX8_openFirst_31 (by decide) ?_
          refine zf_iast (by first | assumption | exact k518 | exact k519 | exact k520 | exact k521 | exact k522 | exact k523 | exact k524 | exact k525 | exact k526 | exact k527 | exact k528 | exact k510 | exact k512 | exact k515 | exact k516 | exact k507 | exact k509 | exact k135 | exact k489 | exact k529 | exact k530) (q := 36) dX8_openFirst_35 rfl (by omega) (by omega) ?_
          refine zp_inc2 (q := 39) dX8_openFirst_36 rfl rfl rfl (fun hA => by unfold z_in at hA ⊢; omega) ?_
          refine zr_goto (q := 2) dX8_openFirst_39 (by decide) ?_
          first
          | (rw [show zVk G (zA0 G) 0 k = 0 by rw [zVk_0, if_pos (show zA0 G k = true from decide_eq_true ⟨hk.1, hk.2, Classical.byContradiction fun n => h27 (if_neg n)⟩)]] at e; exact e (by omega) (by omega))
          | (rw [show zVk G (zA0 G) 0 k = -1 by rw [zVk_0, if_neg (show ¬ zA0 G k = true from fun c => absurd ((if_pos (of_decide_eq_true c).2.2).symm.trans h27) (by decide))]] at e; exact e (by omega) (by omega))
          | (rw [show zVk G (zA0 G) 0 k = -1 by rw [zVk_0, if_neg (show ¬ zA0 G k = true from fun c => absurd ((if_pos ⟨(of_decide_eq_true c).1, (of_decide_eq_true c).2.1⟩).symm.trans h18) (by decide))]] at e; exact e (by omega) (by omega))
theorem s_X8_openFirst (hr : zRo r) (ha : zAs a) (R : zAR M a G) (hG : zWF G) (hp : M r 0 = r + 1) : z_Call mX8_openFirst zF [(1, r), (1, a)] M (zpF 9 0 (z_up (zRow M (r + 1) (zVk G (zA0 G) 0) 8) r 1 0)) := by
  refine z_enter (k := 1) rfl rfl rfl ?_
  refine zr_iconst (q := 1) dX8_openFirst_0 rfl (z_in_of rfl) ?_
  refine zp_is2 (q := 2) dX8_openFirst_1 rfl rfl rfl ?_
  have e := s_X8_openFirst_l hr ha R hG hp (bc := mX8_openFirst.2.2.2.2.2.1) (bs := mX8_openFirst.2.2.2.2.2.2.1) 9 0 (by omega) (by omega) (by omega)
  rw [zRow_0] at e
  exact e
theorem s_X8_openAfter_l {p : Int} (hr : zRo r) (hq : zRo p) (hne : r ≠ p) (hp : M r 0 = r + 1) (hp2 : M p 0 = p + 1) (hA : ∀ w, 0 ≤ w → w < 8 → (M (p + 1) w = -1 ↔ A w = false)) {bc bs : Nat} : ∀ (m : Nat) (k : Int), 0 ≤ k → k ≤ 8 → 8 - k < m →
    z_Ex mX8_openAfter zF 2 [(1, r), (1, p), (0, k)] [] (zRow M (r + 1) (zVk G (fun w => A w && decide (w ≠ M p 3)) 0) k) bc bs (zpF 9 0 (z_up (zRow M (r + 1) (zVk G (fun w => A w && decide (w ≠ M p 3)) 0) 8) r 1 0)) := by
  have o0 := zRo_0 hr
  have o1 := zRo_1 hr
  have p0 := zRo_0 hq
  have rr := zRo_rng hr
  have rp := zRo_rng hq
  intro m
  induction m with
  | zero => intro k h0 h1 h2; omega
  | succ m ih =>
    intro k h0 h1 h2
    have e := ih (k + 1) (by omega)
    rw [← zRow_s _ _ _ h0] at e
    have hk9 := hA k h0
    refine zp_il2 (q := 3) dX8_openAfter_2 rfl ?_
    refine zr_bipush (q := 5) dX8_openAfter_3 rfl (z_in_of rfl) (by decide +kernel) ?_
    refine zr_icmp_ge (q := 41) (q2 := 8) dX8_openAfter_5 (by decide) rfl (fun h5 => ?_) (fun h5 => ?_)
    · refine zp_al0 (q := 42) dX8_openAfter_41 rfl ?_
      refine zr_iconst (q := 43) dX8_openAfter_42 rfl (z_in_of rfl) ?_
      refine zf_putG 1 (by first | assumption | exact k508) rfl fpX8_15 (q := 46) dX8_openAfter_43 rfl rfl (by decide) (z_fit_i _) ?_
      refine zr_return dX8_openAfter_46 rfl ?_
      have e8 : k = 8 := by omega
      subst e8
      exact ⟨rfl, rfl, rfl⟩
    · refine zp_al0 (q := 9) dX8_openAfter_8 rfl ?_
      refine zf_getG (v := r + 1) 0 (by first | assumption | exact k508) (by rw [zRow_ne _ _ _ _ (by omega)]; exact hp) rfl fdX8_9 (q := 12) dX8_openAfter_9 rfl rfl ?_
      refine zp_il2 (q := 13) dX8_openAfter_12 rfl ?_
      refine zp_al1 (q := 14) dX8_openAfter_13 rfl ?_
      refine zp_il2 (q := 15) dX8_openAfter_14 rfl ?_
      refine zf_callV1 (by first | assumption | exact k508) (s_X8_continues hq (by rw [zRow_ne _ _ _ _ (by omega)]; exact hp2)) mtX8_continues wiX8_continues weX8_continues wlX8_39 (q := 18) dX8_openAfter_15 rfl rfl rfl rfl rfl rfl rfl (fun r S9 M9 h8 hP => ?_) (fun k S9 M9 hP => (z_no hP.1 rfl).elim)
      obtain ⟨rfl, rfl, h9⟩ := hP
      subst M9
      rw [zRow_ne _ _ _ _ (show p + 1 ≠ r + 1 by omega)]
      refine zr_if_eq (q := 33) (q2 := 21) dX8_openAfter_18 (by decide) rfl (fun h18 => ?_) (fun h18 => ?_)
      · refine zr_iconst (q := 34) dX8_openAfter_33 rfl (z_in_of rfl) ?_
        refine zf_iast (by first | assumption | exact k518 | exact k519 | exact k520 | exact k521 | exact k522 | exact k523 | exact k524 | exact k525 | exact k526 | exact k527 | exact k528 | exact k510 | exact k512 | exact k515 | exact k516 | exact k507 | exact k509 | exact k135 | exact k489 | exact k529 | exact k530) (q := 35) dX8_openAfter_34 rfl (by omega) (by omega) ?_
        refine zp_inc2 (q := 38) dX8_openAfter_35 rfl rfl rfl (fun hA => by unfold z_in at hA ⊢; omega) ?_
        refine zr_goto (q := 2) dX8_openAfter_38 (by decide) ?_
        first
        | (have t26 : k ≠ M p 3 := h26
           have c1 : 0 ≤ k ∧ k < 8 ∧ M (p + 1) k ≠ -1 := Classical.byContradiction fun n => h18 (if_neg n)
           have c2 : A k = true := by
             cases c3 : A k with
             | true => rfl
             | false => exact absurd ((hk9 c1.2.1).mpr c3) c1.2.2
           rw [show zVk G (fun w => A w && decide (w ≠ M p 3)) 0 k = 0 by rw [zVk_0, if_pos (by show (A k && decide (k ≠ M p 3)) = true; rw [c2, decide_eq_true h26]; rfl)]] at e
           exact e (by omega) (by omega))
        | (have t26 : k = M p 3 := h26
           rw [show zVk G (fun w => A w && decide (w ≠ M p 3)) 0 k = -1 by rw [zVk_0, if_neg (by show ¬ (A k && decide (k ≠ M p 3)) = true; rw [decide_eq_false (fun n => n h26), Bool.and_false]; decide)]] at e
           exact e (by omega) (by omega))
        | (have c2 : A k = false := by
             refine (hk9 (by omega)).mp (Classical.byContradiction fun n => ?_)
             rw [if_pos ⟨h0, by omega, n⟩] at h18
             exact absurd h18 (by decide)
           rw [show zVk G (fun w => A w && decide (w ≠ M p 3)) 0 k = -1 by rw [zVk_0, if_neg (by show ¬ (A k && decide (k ≠ M p 3)) = true; rw [c2, Bool.false_and]; decide)]] at e
           exact e (by omega) (by omega))
      · refine zp_il2 (q := 22) dX8_openAfter_21 rfl ?_
        refine zp_al1 (q := 23) dX8_openAfter_22 rfl ?_
        refine zf_getG (v := M p 3) 3 (by first | assumption | exact k508) (by rw [zRow_ne _ _ _ _ (by omega)]) rfl fdX8_22 (q := 26) dX8_openAfter_23 rfl rfl ?_
        refine zr_icmp_eq (q := 33) (q2 := 29) dX8_openAfter_26 (by decide) rfl (fun h26 => ?_) (fun h26 => ?_)
        · refine zr_iconst (q := 34) dX8_openAfter_33 rfl (z_in_of rfl) ?_
          refine zf_iast (by first | assumption | exact k518 | exact k519 | exact k520 | exact k521 | exact k522 | exact k523 | exact k524 | exact k525 | exact k526 | exact k527 | exact k528 | exact k510 | exact k512 | exact k515 | exact k516 | exact k507 | exact k509 | exact k135 | exact k489 | exact k529 | exact k530) (q := 35) dX8_openAfter_34 rfl (by omega) (by omega) ?_
          refine zp_inc2 (q := 38) dX8_openAfter_35 rfl rfl rfl (fun hA => by unfold z_in at hA ⊢; omega) ?_
          refine zr_goto (q := 2) dX8_openAfter_38 (by decide) ?_
          first
          | (have t26 : k ≠ M p 3 := h26
             have c1 : 0 ≤ k ∧ k < 8 ∧ M (p + 1) k ≠ -1 := Classical.byContradiction fun n => h18 (if_neg n)
             have c2 : A k = true := by
               cases c3 : A k with
               | true => rfl
               | false => exact absurd ((hk9 c1.2.1).mpr c3) c1.2.2
             rw [show zVk G (fun w => A w && decide (w ≠ M p 3)) 0 k = 0 by rw [zVk_0, if_pos (by show (A k && decide (k ≠ M p 3)) = true; rw [c2, decide_eq_true h26]; rfl)]] at e
             exact e (by omega) (by omega))
          | (have t26 : k = M p 3 := h26
             rw [show zVk G (fun w => A w && decide (w ≠ M p 3)) 0 k = -1 by rw [zVk_0, if_neg (by show ¬ (A k && decide (k ≠ M p 3)) = true; rw [decide_eq_false (fun n => n h26), Bool.and_false]; decide)]] at e
             exact e (by omega) (by omega))
          | (have c2 : A k = false := by
               refine (hk9 (by omega)).mp (Classical.byContradiction fun n => ?_)
               rw [if_pos ⟨h0, by omega, n⟩] at h18
               exact absurd h18 (by decide)
             rw [show zVk G (fun w => A w && decide (w ≠ M p 3)) 0 k = -1 by rw [zVk_0, if_neg (by show ¬ (A k && decide (k ≠ M p 3)) = true; rw [c2, Bool.false_and]; decide)]] at e
             exact e (by omega) (by omega))
        · refine zr_iconst (q := 30) dX8_openAfter_29 rfl (z_in_of rfl) ?_
          refine zr_goto (q := 34) dX8_openAfter_30 (by decide) ?_
          refine zf_iast (by first | assumption | exact k518 | exact k519 | exact k520 | exact k521 | exact k522 | exact k523 | exact k524 | exact k525 | exact k526 | exact k527 | exact k528 | exact k510 | exact k512 | exact k515 | exact k516 | exact k507 | exact k509 | exact k135 | exact k489 | exact k529 | exact k530) (q := 35) dX8_openAfter_34 rfl (by omega) (by omega) ?_
          refine zp_inc2 (q := 38) dX8_openAfter_35 rfl rfl rfl (fun hA => by unfold z_in at hA ⊢; omega) ?_
          refine zr_goto (q := 2) dX8_openAfter_38 (by decide) ?_
          first
          | (have t26 : k ≠ M p 3 := h26
             have c1 : 0 ≤ k ∧ k < 8 ∧ M (p + 1) k ≠ -1 := Classical.byContradiction fun n => h18 (if_neg n)
             have c2 : A k = true := by
               cases c3 : A k with
               | true => rfl
               | false => exact absurd ((hk9 c1.2.1).mpr c3) c1.2.2
             rw [show zVk G (fun w => A w && decide (w ≠ M p 3)) 0 k = 0 by rw [zVk_0, if_pos (by show (A k && decide (k ≠ M p 3)) = true; rw [c2, decide_eq_true h26]; rfl)]] at e
             exact e (by omega) (by omega))
          | (have t26 : k = M p 3 := h26
             rw [show zVk G (fun w => A w && decide (w ≠ M p 3)) 0 k = -1 by rw [zVk_0, if_neg (by show ¬ (A k && decide (k ≠ M p 3)) = true; rw [decide_eq_false (fun n => n h26), Bool.and_false]; decide)]] at e
             exact e (by omega) (by omega))
          | (have c2 : A k = false := by
               refine (hk9 (by omega)).mp (Classical.byContradiction fun n => ?_)
               rw [if_pos ⟨h0, by omega, n⟩] at h18
               exact absurd h18 (by decide)
             rw [show zVk G (fun w => A w && decide (w ≠ M p 3)) 0 k = -1 by rw [zVk_0, if_neg (by show ¬ (A k && decide (k ≠ M p 3)) = true; rw [c2, Bool.false_and]; decide)]] at e
             exact e (by omega) (by omega))
theorem s_X8_openAfter {p : Int} (hr : zRo r) (hq : zRo p) (hne : r ≠ p) (hp : M r 0 = r + 1) (hp2 : M p 0 = p + 1) (hA : ∀ w, 0 ≤ w → w < 8 → (M (p + 1) w = -1 ↔ A w = false)) : z_Call mX8_openAfter zF [(1, r), (1, p)] M (zpF 9 0 (z_up (zRow M (r + 1) (zVk G (fun w => A w && decide (w ≠ M p 3)) 0) 8) r 1 0)) := by
  refine z_enter (k := 1) rfl rfl rfl ?_
  refine zr_iconst (q := 1) dX8_openAfter_0 rfl (z_in_of rfl) ?_
  refine zp_is2 (q := 2) dX8_openAfter_1 rfl rfl rfl ?_
  have e := s_X8_openAfter_l (G := G) hr hq hne hp hp2 hA (bc := mX8_openAfter.2.2.2.2.2.1) (bs := mX8_openAfter.2.2.2.2.2.2.1) 9 0 (by omega) (by omega) (by omega)
  rw [zRow_0] at e
  exact e
abbrev zpAdd (M : zM) (r : Int) (G : Int → Int) (A : Int → Bool) (i : Int) : zV → zS → zM → Prop := fun r' S' M' => r' = (0, zTop G A i) ∧ S' = zF ∧ M' = if zTop G A i = -1 then z_up M r 1 (M r 1 + G (20 + 7 * i)) else z_up M (r + 1) (zTop G A i) (M (r + 1) (zTop G A i) + G (20 + 7 * i))
theorem s_X8_add_l (hr : zRo r) (ha : zAs a) (R : zAR M a G) (hG : zWF G) (hp : M r 0 = r + 1) (hA : ∀ w, 0 ≤ w → w < 8 → (M (r + 1) w = -1 ↔ A w = false)) (hv : ∀ w, 0 ≤ w → w < 8 → -1 ≤ M (r + 1) w ∧ M (r + 1) w ≤ 100000) (hx : 0 ≤ M r 1 ∧ M r 1 ≤ 100000) {i : Int} (i0 : 0 ≤ i) (i1 : i < G 1) {bc bs : Nat} : ∀ (m : Nat) (k : Int), 0 ≤ k → k ≤ G (20 + 7 * i + 1) → G (20 + 7 * i + 1) - k < m → (∀ j, 0 ≤ j → j < k → A (G (20 + 7 * i + 2 + j)) = false) →
    z_Ex mX8_add zF 2 [(1, r), (1, M (a + 3) i), (0, k), (9, 0)] [] M bc bs (zpAdd M r G A i) := by
  have o0 := zRo_0 hr
  have o1 := zRo_1 hr
  have hn := hG.n
  have hw8 := hG.w
  have hb := R.h.bl i0 (show i < 20 by omega)
  have ob := zBl_0 ha hb
  have ob1 := zBl_1 ha hb
  have hz := hG.sz i0 i1
  have hwt := hG.wt i0 i1
  intro m
  induction m with
  | zero => intro k h0 h1 h2; omega
  | succ m ih =>
    intro k h0 h1 h2 h3
    refine zp_il2 (q := 3) dX8_add_2 rfl ?_
    refine zp_al1 (q := 4) dX8_add_3 rfl ?_
    refine zf_getG (v := G (20 + 7 * i + 1)) 1 (by assumption) (R.bn i0 i1) rfl fdX8_42 (q := 7) dX8_add_4 rfl rfl ?_
    refine zr_icmp_ge (q := 46) (q2 := 10) dX8_add_7 (by decide) rfl (fun h7 => ?_) (fun h7 => ?_)
    · refine zp_al0 (q := 47) dX8_add_46 rfl ?_
      refine zr_dup (q := 48) dX8_add_47 rfl (Or.inr rfl) ?_
      refine zf_getG (v := M r 1) 1 (by first | assumption | exact k508) (rfl) rfl fdX8_15 (q := 51) dX8_add_48 rfl rfl ?_
      refine zp_al1 (q := 52) dX8_add_51 rfl ?_
      refine zf_getG (v := G (20 + 7 * i)) 0 (by assumption) (R.bw i0 i1) rfl fdX8_50 (q := 55) dX8_add_52 rfl rfl ?_
      refine zr_iadd (q := 56) dX8_add_55 rfl (fun hA hB => by unfold z_in at hA hB ⊢; omega) ?_
      refine zf_putG 1 (by first | assumption | exact k508) rfl fpX8_15 (q := 59) dX8_add_56 rfl rfl (by decide) (z_fit_i _) ?_
      refine zr_iconst (q := 60) dX8_add_59 rfl (z_in_of rfl) ?_
      refine zr_ireturn dX8_add_60 rfl (z_fit_i _) ?_
      have c2 : zTp G A i = -1 := zFs_no (fun j j0 j1 => h3 j j0 (by omega))
      have c4 : zTop G A i = -1 := by unfold zTop; rw [if_pos c2]
      exact ⟨by rw [c4], rfl, by rw [if_pos c4]⟩
    · refine zp_al1 (q := 11) dX8_add_10 rfl ?_
      refine zf_getG (v := M (a + 3) i + 1) 2 (by assumption) (R.h.bp hb) rfl fdX8_47 (q := 14) dX8_add_11 rfl rfl ?_
      refine zp_il2 (q := 15) dX8_add_14 rfl ?_
      refine zf_iald (v := G (20 + 7 * i + 2 + k)) (by first | assumption | exact k518 | exact k519 | exact k520 | exact k521 | exact k522 | exact k523 | exact k524 | exact k525 | exact k526 | exact k527 | exact k528 | exact k510 | exact k512 | exact k515 | exact k516 | exact k507 | exact k509 | exact k135 | exact k489 | exact k529 | exact k530) (R.bj i0 i1 k (by omega) (by omega)) (q := 16) dX8_add_15 rfl (by omega) (by omega) ?_
      have hk := hG.rk i0 i1 k h0 (by omega)
      have hv9 := hv (G (20 + 7 * i + 2 + k)) hk.1 (by omega)
      have hA9 := hA (G (20 + 7 * i + 2 + k)) hk.1 (by omega)
      refine zp_is3 (q := 17) dX8_add_16 rfl rfl rfl ?_
      refine zp_al0 (q := 18) dX8_add_17 rfl ?_
      refine zp_il3 (q := 19) dX8_add_18 rfl ?_
      refine zf_callV1 (by first | assumption | exact k508) (s_X8_continues hr hp) mtX8_continues wiX8_continues weX8_continues wlX8_39 (q := 22) dX8_add_19 rfl rfl rfl rfl rfl rfl rfl (fun r S9 M9 h8 hP => ?_) (fun k S9 M9 hP => (z_no hP.1 rfl).elim)
      obtain ⟨rfl, rfl, h9⟩ := hP
      subst M9
      refine zr_if_eq (q := 40) (q2 := 25) dX8_add_22 (by decide) rfl (fun h22 => ?_) (fun h22 => ?_)
      · refine zp_inc2 (q := 43) dX8_add_40 rfl rfl rfl (fun hA => by unfold z_in at hA ⊢; omega) ?_
        refine zr_goto (q := 2) dX8_add_43 (by decide) ?_
        exact zr_drop 3 (ih (k + 1) (by omega) (by omega) (by omega) (fun j a1 a2 => by
          by_cases e : j = k
          · rw [e]
            refine hA9.mp (Classical.byContradiction fun n => ?_)
            rw [if_pos ⟨hk.1, by omega, n⟩] at h22
            exact absurd h22 (by decide)
          · exact h3 j a1 (by omega)))
      · refine zp_al0 (q := 26) dX8_add_25 rfl ?_
        refine zf_getG (v := r + 1) 0 (by first | assumption | exact k508) (hp) rfl fdX8_9 (q := 29) dX8_add_26 rfl rfl ?_
        refine zp_il3 (q := 30) dX8_add_29 rfl ?_
        refine zr_dup2 (q := 31) dX8_add_30 rfl (Or.inl rfl) (Or.inr rfl) ?_
        refine zf_iald (v := _) (by first | assumption | exact k518 | exact k519 | exact k520 | exact k521 | exact k522 | exact k523 | exact k524 | exact k525 | exact k526 | exact k527 | exact k528 | exact k510 | exact k512 | exact k515 | exact k516 | exact k507 | exact k509 | exact k135 | exact k489 | exact k529 | exact k530) (rfl) (q := 32) dX8_add_31 rfl (by omega) (by omega) ?_
        refine zp_al1 (q := 33) dX8_add_32 rfl ?_
        refine zf_getG (v := G (20 + 7 * i)) 0 (by assumption) (R.bw i0 i1) rfl fdX8_50 (q := 36) dX8_add_33 rfl rfl ?_
        refine zr_iadd (q := 37) dX8_add_36 rfl (fun hA hB => by unfold z_in at hA hB ⊢; omega) ?_
        refine zf_iast (by first | assumption | exact k518 | exact k519 | exact k520 | exact k521 | exact k522 | exact k523 | exact k524 | exact k525 | exact k526 | exact k527 | exact k528 | exact k510 | exact k512 | exact k515 | exact k516 | exact k507 | exact k509 | exact k135 | exact k489 | exact k529 | exact k530) (q := 38) dX8_add_37 rfl (by omega) (by omega) ?_
        refine zp_il3 (q := 39) dX8_add_38 rfl ?_
        refine zr_ireturn dX8_add_39 rfl (z_fit_i _) ?_
        have c1 : A (G (20 + 7 * i + 2 + k)) = true := by
          cases c3 : A (G (20 + 7 * i + 2 + k)) with
          | true => rfl
          | false => exact absurd (if_neg (fun n => n.2.2 (hA9.mpr c3))) h22
        have c2 : zTp G A i = k := zFs_yes h0 (by omega) c1 h3
        have c4 : zTop G A i = G (20 + 7 * i + 2 + k) := by unfold zTop; rw [c2, if_neg (by omega)]
        exact ⟨by rw [c4], rfl, by rw [c4, if_neg (by omega)]⟩
theorem s_X8_add (hr : zRo r) (ha : zAs a) (R : zAR M a G) (hG : zWF G) (hp : M r 0 = r + 1) (hA : ∀ w, 0 ≤ w → w < 8 → (M (r + 1) w = -1 ↔ A w = false)) (hv : ∀ w, 0 ≤ w → w < 8 → -1 ≤ M (r + 1) w ∧ M (r + 1) w ≤ 100000) (hx : 0 ≤ M r 1 ∧ M r 1 ≤ 100000) {i : Int} (i0 : 0 ≤ i) (i1 : i < G 1) :
    z_Call mX8_add zF [(1, r), (1, M (a + 3) i)] M (zpAdd M r G A i) := by
  have hz := hG.sz i0 i1
  refine z_enter (k := 2) rfl rfl rfl ?_
  refine zr_iconst (q := 1) dX8_add_0 rfl (z_in_of rfl) ?_
  refine zp_is2 (q := 2) dX8_add_1 rfl rfl rfl ?_
  exact s_X8_add_l hr ha R hG hp hA hv hx i0 i1 6 0 (by omega) (by omega) (by omega) (fun j a1 a2 => by omega)
/-- a round whose first k ballots are counted -/
def zJ (M M' : zM) (r : Int) (G : Int → Int) (A : Int → Bool) (k : Int) : Prop := (∀ z, z ≠ r → z ≠ r + 1 → M' z = M z) ∧ M' r 0 = r + 1 ∧ M' r 1 = zXk G A k ∧ ∀ w, 0 ≤ w → w < 8 → M' (r + 1) w = zVk G A k w
theorem zJ_add (hG : zWF G) {M1 M2 : zM} {k : Int} (hJ : zJ M M1 r G A k) (k0 : 0 ≤ k) (k1 : k < G 1) (e : M2 = if zTop G A k = -1 then z_up M1 r 1 (M1 r 1 + G (20 + 7 * k)) else z_up M1 (r + 1) (zTop G A k) (M1 (r + 1) (zTop G A k) + G (20 + 7 * k))) : zJ M M2 r G A (k + 1) := by
  obtain ⟨j1, j2, j3, j4⟩ := hJ
  have x1 : zXk G A (k + 1) = zXk G A k + if zTop G A k = -1 then G (20 + 7 * k) else 0 := zU_s _ k0
  rcases zTop_cases hG A k0 k1 with ⟨a, _⟩ | ⟨a, b, c⟩
  · rw [if_pos a] at e x1
    subst e
    refine ⟨fun z z1 z2 => by rw [z_up_ne z1]; exact j1 z z1 z2, by rw [z_up_sl (by decide)]; exact j2, by rw [z_up_eq, j3, x1], fun w w0 w1 => ?_⟩
    rw [z_up_ne (by omega), j4 w w0 w1]
    cases hA : A w with
    | true => rw [zVk_s A k0 w hA, if_neg (by omega), Int.add_zero]
    | false => rw [zVk_n A _ w hA, zVk_n A _ w hA]
  · rw [if_neg (show ¬ zTop G A k = -1 by omega)] at e x1
    subst e
    have hw := hG.w
    refine ⟨fun z z1 z2 => by rw [z_up_ne z2]; exact j1 z z1 z2, by rw [z_up_ne (by omega)]; exact j2, by rw [z_up_ne (by omega), j3, x1, Int.add_zero], fun w w0 w1 => ?_⟩
    by_cases ew : w = zTop G A k
    · rw [ew, z_up_eq, j4 _ a (by omega), zVk_s A k0 _ c, if_pos rfl]
    · rw [z_up_sl ew, j4 w w0 w1]
      cases hA : A w with
      | true => rw [zVk_s A k0 w hA, if_neg (fun e => ew e.symm), Int.add_zero]
      | false => rw [zVk_n A _ w hA, zVk_n A _ w hA]
theorem zJ_A (hG : zWF G) {M1 : zM} {k : Int} (hJ : zJ M M1 r G A k) (k0 : 0 ≤ k) (k1 : k ≤ G 1) : (∀ w, 0 ≤ w → w < 8 → (M1 (r + 1) w = -1 ↔ A w = false)) ∧ (∀ w, 0 ≤ w → w < 8 → -1 ≤ M1 (r + 1) w ∧ M1 (r + 1) w ≤ 1980) ∧ 0 ≤ M1 r 1 ∧ M1 r 1 ≤ 1980 := by
  have hn := hG.n
  obtain ⟨j1, j2, j3, j4⟩ := hJ
  have := zXk_range hG A k0 k1
  exact ⟨fun w w0 w1 => by rw [j4 w w0 w1]; exact zVk_ne hG A k0 k1 w, fun w w0 w1 => by rw [j4 w w0 w1]; exact zVk_range hG A k0 k1 w, by omega⟩
/-- the rounds' own pointers -/
def zHc (M : zM) : Prop := M 488 0 = 489 ∧ ∀ k, 0 ≤ k → k < 8 → M 489 k = 490 + 2 * k ∧ M (490 + 2 * k) 0 = 490 + 2 * k + 1
theorem ro490 {k : Int} (h0 : 0 ≤ k) (h1 : k < 8) : zRo (490 + 2 * k) := by
  unfold zRo
  omega
theorem s_X3_take_b (ha : zAs a) (R : zAR M a G) (hG : zWF G) (hr : zRo r) {n : Int} {bc bs : Nat} {Q : zV → zS → zM → Prop} (kk : ∀ M', zJ M M' r G A (G 1) → z_Ex mX3_take zF 105 [(1, 488), (1, a), (0, n), (1, r), (0, G 1)] [] M' bc bs Q) : ∀ (m : Nat) (k : Int) (M' : zM), 0 ≤ k → k ≤ G 1 → G 1 - k < m → zJ M M' r G A k →
    z_Ex mX3_take zF 78 [(1, 488), (1, a), (0, n), (1, r), (0, k)] [] M' bc bs Q := by
  have o0 := zRo_0 hr
  have o1 := zRo_1 hr
  have p0 := zAs_0 ha
  have p3 := zAs_3 ha
  have hn := hG.n
  have rr := zRo_rng hr
  have ra := zAs_rng ha
  intro m
  induction m with
  | zero => intro k M' h0 h1 h2; omega
  | succ m ih =>
    intro k M' h0 h1 h2 hJ
    have R' : zAR M' a G := R.of hG (fun z z0 z1 => hJ.1 z (by omega) (by omega))
    refine zp_il4 (q := 80) dX3_take_78 rfl ?_
    refine zp_al1 (q := 81) dX3_take_80 rfl ?_
    refine zf_getG (v := G 1) 4 (by first | assumption | exact k2 | exact k46 | exact k90) (R'.n) rfl fdX3_43 (q := 84) dX3_take_81 rfl rfl ?_
    refine zr_icmp_ge (q := 105) (q2 := 87) dX3_take_84 (by decide) rfl (fun h84 => ?_) (fun h84 => ?_)
    · have e : k = G 1 := by omega
      subst e
      exact kk M' hJ
    · have hAJ := zJ_A hG hJ h0 h1
      refine zp_al3 (q := 88) dX3_take_87 rfl ?_
      refine zp_al1 (q := 89) dX3_take_88 rfl ?_
      refine zf_getG (v := a + 3) 5 (by first | assumption | exact k2 | exact k46 | exact k90) (R'.h.p3) rfl fdX3_46 (q := 92) dX3_take_89 rfl rfl ?_
      refine zp_il4 (q := 94) dX3_take_92 rfl ?_
      refine zf_aald (v := _) (by first | assumption | exact k518 | exact k519 | exact k520 | exact k521 | exact k522 | exact k523 | exact k524 | exact k525 | exact k526 | exact k527 | exact k528 | exact k510 | exact k512 | exact k515 | exact k516 | exact k507 | exact k509 | exact k135 | exact k489 | exact k529 | exact k530) (rfl) (by decide) (q := 95) dX3_take_94 rfl (by omega) (by omega) ?_
      refine zf_callV1 (by first | assumption | exact k508) (s_X8_add hr ha R' hG hJ.2.1 hAJ.1 (fun w w0 w1 => by have := hAJ.2.1 w w0 w1; omega) (by have := hAJ.2.2; omega) h0 (by omega)) mtX8_add wiX8_add weX8_add wlX3_50 (q := 98) dX3_take_95 rfl rfl rfl rfl rfl rfl rfl (fun r S9 M9 h8 hP => ?_) (fun k S9 M9 hP => (z_no hP.1 rfl).elim)
      obtain ⟨rfl, rfl, eM⟩ := hP
      refine zr_pop (q := 99) dX3_take_98 rfl (Or.inl rfl) ?_
      refine zp_inc4 (q := 102) dX3_take_99 rfl rfl rfl (fun hA => by unfold z_in at hA ⊢; omega) ?_
      refine zr_goto (q := 78) dX3_take_102 (by decide) ?_
      exact ih (k + 1) _ (by omega) (by omega) (by omega) (zJ_add hG hJ h0 (by omega) eM)
/-- the object r holds round i -/
def zRk1 (M : zM) (r : Int) (G : Int → Int) (i : Int) : Prop := (∀ w, 0 ≤ w → w < 8 → M (r + 1) w = zVr G i w) ∧ M r 1 = zXk G (zA G i) (G 1) ∧ M r 2 = zWn (zVr G i) ∧ M r 3 = zEl (zVr G i) (zP G i) ∧ M r 4 = zTi (zVr G i)
/-- what stands before round n -/
def zCt (M M' : zM) (G : Int → Int) (n : Int) : Prop := (∀ z, z < 488 ∨ 506 ≤ z → M' z = M z) ∧ zHc M' ∧ M' 488 1 = n ∧ M' 488 3 = zP G n ∧ (∀ i, 0 ≤ i → i < n → zRk1 M' (490 + 2 * i) G i) ∧ (∀ j, 0 ≤ j → j < n - 1 → zWn (zVr G j) = -1) ∧
  (n = 0 → M' 488 2 = -1 ∧ M' 490 1 = 0 ∧ ∀ w, 0 ≤ w → w < 8 → M' 491 w = zVk G (zA0 G) 0 w) ∧ (0 < n → M' 488 2 = zWn (zVr G (n - 1)))
theorem zRn_eq (hG : zWF G) (hs : 1 ≤ zSt G) {n : Int} (h0 : 1 ≤ n) (h1 : n ≤ 8) (h2 : ∀ j, 0 ≤ j → j < n - 1 → zWn (zVr G j) = -1) (h3 : zWn (zVr G (n - 1)) ≠ -1) : zRn G = n := by
  have h := zRn_spec hG hs
  apply Classical.byContradiction
  intro e
  by_cases e2 : zRn G < n
  · exact h.2.2.2.2 (h2 _ (by omega) (by omega))
  · exact h3 (h.2.2.2.1 _ (by omega) (by omega))
/-- a count that has been taken -/
def zTk (M M' : zM) (G : Int → Int) : Prop := (∀ z, z < 488 ∨ 506 ≤ z → M' z = M z) ∧ zHc M' ∧ M' 488 1 = zRn G ∧ M' 488 2 = zW G ∧ M' 488 3 = zP G (zRn G) ∧ ∀ i, 0 ≤ i → i < zRn G → zRk1 M' (490 + 2 * i) G i
theorem s_X3_take_l (ha : zAs a) (R : zAR M a G) (hG : zWF G) (hs : 1 ≤ zSt G) {bc bs : Nat} : ∀ (m : Nat) (n : Int) (M' : zM), 0 ≤ n → n ≤ 8 → 8 - n < m → zCt M M' G n →
    z_Ex mX3_take zF 38 [(1, 488), (1, a), (0, n), (9, 0), (9, 0)] [] M' bc bs (fun r S' M' => r = (9, 0) ∧ S' = zF ∧ zTk M M' G) := by
  have hn := hG.n
  have ra := zAs_rng ha
  have hsp := zRn_spec hG hs
  intro m
  induction m with
  | zero => intro n M' h0 h1 h2; omega
  | succ m ih =>
    intro n M' h0 h1 h2 hI
    obtain ⟨i1, i2, i3, i4, i5, i6, i7, i8⟩ := id hI
    have kk : n < 8 → M' 488 2 = -1 → ∀ M1, zJ M' M1 (490 + 2 * n) G (zA G n) 0 → z_Ex mX3_take zF 75 [(1, 488), (1, a), (0, n), (1, 490 + 2 * n), (9, 0)] [] M1 bc bs (fun r S' M' => r = (9, 0) ∧ S' = zF ∧ zTk M M' G) := by
      intro hn8 hwin M1 hJ
      have hr := ro490 h0 hn8
      have or0 := zRo_0 hr
      have hj6 : ∀ j, 0 ≤ j → j < n → zWn (zVr G j) = -1 := by
        intro j j0 j1
        by_cases e : j = n - 1
        · rw [e, ← i8 (by omega)]; exact hwin
        · exact i6 j j0 (by omega)
      have hst : n < zSt G := by
        apply Classical.byContradiction
        intro c
        exact hsp.2.2.2.2 (hj6 _ (by omega) (by omega))
      have hAc := zA_step hG h0 hj6 hst
      obtain ⟨w9, w90, w91, w92⟩ := zAc_ex (A := zA G n) (by omega)
      have RJ : zAR M1 a G := R.of hG (fun z z0 z1 => by rw [hJ.1 z (by omega) (by omega)]; exact i1 z (by omega))
      have kd : ∀ M2, zJ M1 M2 (490 + 2 * n) G (zA G n) (G 1) → z_Ex mX3_take zF 105 [(1, 488), (1, a), (0, n), (1, 490 + 2 * n), (0, G 1)] [] M2 bc bs (fun r S' M' => r = (9, 0) ∧ S' = zF ∧ zTk M M' G) := by
        intro M2 hK
        have hAJ := zJ_A hG hK hn.1 (Int.le_refl _)
        have hV : ∀ w, 0 ≤ w → w < 8 → M2 (490 + 2 * n + 1) w = zVr G n w := hK.2.2.2
        have e488 : M2 488 = M' 488 := (hK.1 488 (by omega) (by omega)).trans (hJ.1 488 (by omega) (by omega))
        refine zp_al0 (q := 106) dX3_take_105 rfl ?_
        refine zp_al3 (q := 107) dX3_take_106 rfl ?_
        refine zp_al0 (q := 108) dX3_take_107 rfl ?_
        refine zf_getG (v := zP G n) 3 (k488) (by rw [e488]; exact i4) rfl fdX3_24 (q := 111) dX3_take_108 rfl rfl ?_
        refine zf_callV1 (by first | assumption | exact k508) (s_X8_decide hr hK.2.1 hAJ.2.1 (zP_range hG h0) ⟨w9, w90, w91, fun e => absurd w92 (by rw [(hAJ.1 w9 w90 w91).mp e]; decide)⟩) mtX8_decide wiX8_decide weX8_decide wlX3_54 (q := 114) dX3_take_111 rfl rfl rfl rfl rfl rfl rfl (fun r S9 M9 h8 hP => ?_) (fun k S9 M9 hP => (z_no hP.1 rfl).elim)
        obtain ⟨rfl, rfl, y1, y2, y3, y4, y5, y6⟩ := hP
        refine zf_putG 3 (k488) rfl fpX3_24 (q := 117) dX3_take_114 rfl rfl (by decide) (z_fit_i _) ?_
        refine zp_al0 (q := 118) dX3_take_117 rfl ?_
        refine zp_al3 (q := 119) dX3_take_118 rfl ?_
        refine zf_getG (v := zWn (zVr G n)) 2 (by first | assumption | exact k508) (by rw [z_up_ne (by omega), y4, zWn_congr hV]) rfl fdX3_58 (q := 122) dX3_take_119 rfl rfl ?_
        refine zf_putG 2 (k488) rfl fpX3_21 (q := 125) dX3_take_122 rfl rfl (by decide) (z_fit_i _) ?_
        refine zp_al0 (q := 126) dX3_take_125 rfl ?_
        refine zp_il2 (q := 127) dX3_take_126 rfl ?_
        refine zr_iconst (q := 128) dX3_take_127 rfl (z_in_of rfl) ?_
        refine zr_iadd (q := 129) dX3_take_128 rfl (fun hA hB => by unfold z_in at hA hB ⊢; omega) ?_
        refine zf_putG 1 (k488) rfl fpX3_17 (q := 132) dX3_take_129 rfl rfl (by decide) (z_fit_i _) ?_
        refine zp_inc2 (q := 135) dX3_take_132 rfl rfl rfl (fun hA => by unfold z_in at hA ⊢; omega) ?_
        refine zr_goto (q := 38) dX3_take_135 (by decide) ?_
        rw [zSn_congr hV, ← zP_s G h0]
        generalize hM4 : z_up (z_up (z_up M9 488 3 (zP G (n + 1))) 488 2 (zWn (zVr G n))) 488 1 (n + 1) = M4
        have f1 : ∀ z, z ≠ 488 → M4 z = M9 z := fun z hz => by rw [← hM4, z_up_ne hz, z_up_ne hz, z_up_ne hz]
        have f2 : ∀ z, z ≠ 488 → z ≠ 490 + 2 * n → M4 z = M2 z := fun z hz h9 => (f1 z hz).trans (y1 z h9)
        have f3 : ∀ z, z ≠ 488 → z ≠ 490 + 2 * n → z ≠ 490 + 2 * n + 1 → M4 z = M' z := fun z hz h9 h8 => (f2 z hz h9).trans ((hK.1 z h9 h8).trans (hJ.1 z h9 h8))
        refine zr_drop 3 (zr_drop 4 (ih (n + 1) M4 (by omega) (by omega) (by omega) ⟨fun z hz => (f3 z (by omega) (by omega) (by omega)).trans (i1 z hz), ⟨?_, fun k k0 k1 => ⟨?_, ?_⟩⟩, by rw [← hM4, z_up_eq], by rw [← hM4, z_up_sl (by decide), z_up_sl (by decide), z_up_eq], fun i i0 i9 => ?_, fun j j0 j1 => hj6 j j0 (by omega), fun h => by omega, fun _ => by rw [← hM4, z_up_sl (by decide), z_up_eq, show n + 1 - 1 = n by omega]⟩))
        · rw [← hM4, z_up_sl (by decide), z_up_sl (by decide), z_up_sl (by decide), y1 488 (by omega), e488]
          exact i2.1
        · rw [f3 489 (by omega) (by omega) (by omega)]
          exact (i2.2 k k0 k1).1
        · by_cases ek : k = n
          · rw [ek, f1 _ (by omega)]
            exact y2
          · rw [f3 _ (by omega) (by omega) (by omega)]
            exact (i2.2 k k0 k1).2
        · by_cases ei : i = n
          · rw [ei]
            refine ⟨fun w w0 w1 => by rw [f2 _ (by omega) (by omega)]; exact hV w w0 w1, by rw [f1 _ (by omega), y3]; exact hK.2.2.1, by rw [f1 _ (by omega), y4, zWn_congr hV], by rw [f1 _ (by omega), y5, zEl_congr hV], by rw [f1 _ (by omega), y6, zTi_congr hV]⟩
          · have h9 := i5 i i0 (by omega)
            unfold zRk1 at h9 ⊢
            rw [f3 _ (by omega) (by omega) (by omega), f3 _ (by omega) (by omega) (by omega)]
            exact h9
      refine zr_iconst (q := 76) dX3_take_75 rfl (z_in_of rfl) ?_
      refine zp_is4 (q := 78) dX3_take_76 rfl rfl rfl ?_
      exact s_X3_take_b ha RJ hG hr kd 21 0 M1 (by omega) (by omega) (by omega) ⟨fun _ _ _ => rfl, hJ.2⟩
    refine zp_il2 (q := 39) dX3_take_38 rfl ?_
    refine zr_bipush (q := 41) dX3_take_39 rfl (z_in_of rfl) (by decide +kernel) ?_
    refine zr_icmp_ge (q := 138) (q2 := 44) dX3_take_41 (by decide) rfl (fun h41 => ?_) (fun h41 => ?_)
    · refine zr_return dX3_take_138 rfl ?_
      have e8 : 0 < n := by
        apply Classical.byContradiction
        intro c
        have := (i7 (by omega)).1
        omega
      have en : zRn G = n := by
        refine zRn_eq hG hs e8 h1 i6 (fun c => ?_)
        have c2 := (i8 e8).trans c
        have c3 : ∀ j, 0 ≤ j → j < n → zWn (zVr G j) = -1 := fun j j0 j1 => by
          by_cases e : j = n - 1
          · rw [e]; exact c
          · exact i6 j j0 (by omega)
        exact hsp.2.2.2.2 (c3 _ (by omega) (by omega))
      have ew : zW G = zWn (zVr G (n - 1)) := by unfold zW; rw [if_neg (by omega), en]
      exact ⟨rfl, rfl, i1, i2, by rw [en]; exact i3, by rw [ew]; exact i8 e8, by rw [en]; exact i4, by rw [en]; exact i5⟩
    · refine zp_al0 (q := 45) dX3_take_44 rfl ?_
      refine zf_getG (v := M' 488 2) 2 (k488) (rfl) rfl fdX3_21 (q := 48) dX3_take_45 rfl rfl ?_
      refine zr_iconst (q := 49) dX3_take_48 rfl (z_in_of rfl) ?_
      refine zr_icmp_ne (q := 138) (q2 := 52) dX3_take_49 (by decide) rfl (fun h49 => ?_) (fun h49 => ?_)
      · refine zr_return dX3_take_138 rfl ?_
        have e8 : 0 < n := by
          apply Classical.byContradiction
          intro c
          have := (i7 (by omega)).1
          omega
        have en : zRn G = n := by
          refine zRn_eq hG hs e8 h1 i6 (fun c => ?_)
          have c2 := (i8 e8).trans c
          have c3 : ∀ j, 0 ≤ j → j < n → zWn (zVr G j) = -1 := fun j j0 j1 => by
            by_cases e : j = n - 1
            · rw [e]; exact c
            · exact i6 j j0 (by omega)
          exact hsp.2.2.2.2 (c3 _ (by omega) (by omega))
        have ew : zW G = zWn (zVr G (n - 1)) := by unfold zW; rw [if_neg (by omega), en]
        exact ⟨rfl, rfl, i1, i2, by rw [en]; exact i3, by rw [ew]; exact i8 e8, by rw [en]; exact i4, by rw [en]; exact i5⟩
      · refine zp_al0 (q := 53) dX3_take_52 rfl ?_
        refine zf_getG (v := 489) 0 (k488) (i2.1) rfl fdX3_11 (q := 56) dX3_take_53 rfl rfl ?_
        refine zp_il2 (q := 57) dX3_take_56 rfl ?_
        refine zf_aald (v := 490 + 2 * n) (by first | assumption | exact k518 | exact k519 | exact k520 | exact k521 | exact k522 | exact k523 | exact k524 | exact k525 | exact k526 | exact k527 | exact k528 | exact k510 | exact k512 | exact k515 | exact k516 | exact k507 | exact k509 | exact k135 | exact k489 | exact k529 | exact k530) ((i2.2 n (by omega) (by omega)).1) (by decide) (q := 58) dX3_take_57 rfl (by omega) (by omega) ?_
        refine zp_as3 (q := 59) dX3_take_58 rfl rfl rfl ?_
        refine zp_il2 (q := 60) dX3_take_59 rfl ?_
        refine zr_if_le (q := 75) (q2 := 63) dX3_take_60 (by decide) rfl (fun h60 => ?_) (fun h60 => ?_)
        · first
          | (refine kk (by omega) (by omega) _ ⟨fun z z1 z2 => by rw [z_up_ne z1, zRow_ne _ _ _ _ z2], by rw [z_up_sl (by decide), zRow_ne _ _ _ _ (by omega)]; exact (i2.2 n (by omega) (by omega)).2, by rw [z_up_eq]; rfl, fun w w0 w1 => ?_⟩
             rw [z_up_ne (by omega), zRow_at _ _ _ w0 w1, show zA G n = fun w => zA G (n - 1) w && decide (w ≠ M' (490 + 2 * (n - 1)) 3) by
               rw [h9.2.2.2.1]
               have := zA_s G (i := n - 1) (by omega)
               rw [show n - 1 + 1 = n by omega] at this
               exact this])
          | (have e : n = 0 := by omega
             subst e
             exact kk (by omega) (by omega) M' ⟨fun _ _ _ => rfl, (i2.2 0 (by omega) (by omega)).2, (i7 rfl).2.1, (i7 rfl).2.2⟩)
        · have hr := ro490 h0 (by omega)
          have hq := ro490 (k := n - 1) (by omega) (by omega)
          have or0 := zRo_0 hr
          have h9 := i5 (n - 1) (by omega) (by omega)
          refine zp_al3 (q := 64) dX3_take_63 rfl ?_
          refine zp_al0 (q := 65) dX3_take_64 rfl ?_
          refine zf_getG (v := 489) 0 (k488) (i2.1) rfl fdX3_11 (q := 68) dX3_take_65 rfl rfl ?_
          refine zp_il2 (q := 69) dX3_take_68 rfl ?_
          refine zr_iconst (q := 70) dX3_take_69 rfl (z_in_of rfl) ?_
          refine zr_isub (q := 71) dX3_take_70 rfl (fun hA hB => by unfold z_in at hA hB ⊢; omega) ?_
          refine zf_aald (v := 490 + 2 * (n - 1)) (by first | assumption | exact k518 | exact k519 | exact k520 | exact k521 | exact k522 | exact k523 | exact k524 | exact k525 | exact k526 | exact k527 | exact k528 | exact k510 | exact k512 | exact k515 | exact k516 | exact k507 | exact k509 | exact k135 | exact k489 | exact k529 | exact k530) ((i2.2 (n - 1) (by omega) (by omega)).1) (by decide) (q := 72) dX3_take_71 rfl (by omega) (by omega) ?_
          refine zf_callV1 (by first | assumption | exact k508) (s_X8_openAfter (G := G) (A := zA G (n - 1)) hr hq (by omega) (i2.2 n (by omega) (by omega)).2 (i2.2 (n - 1) (by omega) (by omega)).2 (fun w w0 w1 => by rw [h9.1 w w0 w1]; exact zVo_ne hG _ w)) mtX8_openAfter wiX8_openAfter weX8_openAfter wlX3_39 (q := 75) dX3_take_72 rfl rfl rfl rfl rfl rfl rfl (fun r S9 M9 h8 hP => ?_) (fun k S9 M9 hP => (z_no hP.1 rfl).elim)
          obtain ⟨rfl, rfl, h9⟩ := hP
          subst M9
          first
          | (refine kk (by omega) (by omega) _ ⟨fun z z1 z2 => by rw [z_up_ne z1, zRow_ne _ _ _ _ z2], by rw [z_up_sl (by decide), zRow_ne _ _ _ _ (by omega)]; exact (i2.2 n (by omega) (by omega)).2, by rw [z_up_eq]; rfl, fun w w0 w1 => ?_⟩
             rw [z_up_ne (by omega), zRow_at _ _ _ w0 w1, show zA G n = fun w => zA G (n - 1) w && decide (w ≠ M' (490 + 2 * (n - 1)) 3) by
               rw [h9.2.2.2.1]
               have := zA_s G (i := n - 1) (by omega)
               rw [show n - 1 + 1 = n by omega] at this
               exact this])
          | (have e : n = 0 := by omega
             subst e
             exact kk (by omega) (by omega) M' ⟨fun _ _ _ => rfl, (i2.2 0 (by omega) (by omega)).2, (i7 rfl).2.1, (i7 rfl).2.2⟩)
theorem s_X3_take (ha : zAs a) (R : zAR M a G) (hG : zWF G) (Hc : zHc M) : z_Call mX3_take zF [(1, 488), (1, a)] M (fun r S' M' => r = (9, 0) ∧ S' = zF ∧ zTk M M' G) := by
  have p0 := zAs_0 ha
  have ra := zAs_rng ha
  have hst := zSt_range hG
  generalize hM3 : z_up (z_up (z_up M 488 1 0) 488 2 (-1)) 488 3 (G 2) = M3
  have f1 : ∀ z, z ≠ 488 → M3 z = M z := fun z hz => by rw [← hM3, z_up_ne hz, z_up_ne hz, z_up_ne hz]
  have R3 : zAR M3 a G := R.of hG (fun z z0 z1 => f1 z (by omega))
  have e0 : M3 488 0 = 489 := by rw [← hM3, z_up_sl (by decide), z_up_sl (by decide), z_up_sl (by decide)]; exact Hc.1
  have e1 : M3 488 1 = 0 := by rw [← hM3, z_up_sl (by decide), z_up_sl (by decide), z_up_eq]
  have e2 : M3 488 2 = -1 := by rw [← hM3, z_up_sl (by decide), z_up_eq]
  have e3 : M3 488 3 = G 2 := by rw [← hM3, z_up_eq]
  have hr0 : zRo 490 := ro490 (k := 0) (by omega) (by omega)
  have h0 := Hc.2 0 (by omega) (by omega)
  rw [show (490 : Int) + 2 * 0 = 490 by omega] at h0
  refine z_enter (k := 3) rfl rfl rfl ?_
  refine zp_al0 (q := 1) dX3_take_0 rfl ?_
  refine zr_iconst (q := 2) dX3_take_1 rfl (z_in_of rfl) ?_
  refine zf_putG 1 (k488) rfl fpX3_17 (q := 5) dX3_take_2 rfl rfl (by decide) (z_fit_i _) ?_
  refine zp_al0 (q := 6) dX3_take_5 rfl ?_
  refine zr_iconst (q := 7) dX3_take_6 rfl (z_in_of rfl) ?_
  refine zf_putG 2 (k488) rfl fpX3_21 (q := 10) dX3_take_7 rfl rfl (by decide) (z_fit_i _) ?_
  refine zp_al0 (q := 11) dX3_take_10 rfl ?_
  refine zp_al1 (q := 12) dX3_take_11 rfl ?_
  refine zf_getG (v := G 2) 6 (by first | assumption | exact k2 | exact k46 | exact k90) (by rw [z_up_ne (by omega), z_up_ne (by omega)]; exact R.sp) rfl fdX3_28 (q := 15) dX3_take_12 rfl rfl ?_
  refine zf_putG 3 (k488) rfl fpX3_24 (q := 18) dX3_take_15 rfl rfl (by decide) (z_fit_i _) ?_
  rw [hM3]
  refine zp_al1 (q := 19) dX3_take_18 rfl ?_
  refine zf_callV0 (by first | assumption | exact k2 | exact k46 | exact k90) (s_X1_standingWinds ha R3 hG) mtX1_standingWinds wiX1_standingWinds weX1_standingWinds wlX3_31 (q := 22) dX3_take_19 rfl rfl rfl rfl rfl rfl rfl (fun r S9 M9 h8 hP => ?_) (fun k S9 M9 hP => (z_no hP.1 rfl).elim)
  obtain ⟨rfl, rfl, h9⟩ := hP
  subst M9
  refine zr_if_ne (q := 26) (q2 := 25) dX3_take_22 (by decide) rfl (fun h22 => ?_) (fun h22 => ?_)
  · refine zp_al0 (q := 27) dX3_take_26 rfl ?_
    refine zf_getG (v := 489) 0 (k488) (e0) rfl fdX3_11 (q := 30) dX3_take_27 rfl rfl ?_
    refine zr_iconst (q := 31) dX3_take_30 rfl (z_in_of rfl) ?_
    refine zf_aald (v := 490) (by first | assumption | exact k518 | exact k519 | exact k520 | exact k521 | exact k522 | exact k523 | exact k524 | exact k525 | exact k526 | exact k527 | exact k528 | exact k510 | exact k512 | exact k515 | exact k516 | exact k507 | exact k509 | exact k135 | exact k489 | exact k529 | exact k530) (by rw [f1 _ (by decide)]; exact h0.1) (by decide) (q := 32) dX3_take_31 rfl (by omega) (by omega) ?_
    refine zp_al1 (q := 33) dX3_take_32 rfl ?_
    refine zf_callV1 (zRo_0 hr0) (s_X8_openFirst hr0 ha R3 hG (by rw [f1 _ (by decide)]; exact h0.2)) mtX8_openFirst wiX8_openFirst weX8_openFirst wlX3_35 (q := 36) dX3_take_33 rfl rfl rfl rfl rfl rfl rfl (fun r S9 M9 h8 hP => ?_) (fun k S9 M9 hP => (z_no hP.1 rfl).elim)
    obtain ⟨rfl, rfl, h9⟩ := hP
    subst M9
    refine zr_iconst (q := 37) dX3_take_36 rfl (z_in_of rfl) ?_
    refine zp_is2 (q := 38) dX3_take_37 rfl rfl rfl ?_
    refine s_X3_take_l ha R hG (by omega) 9 0 _ (by omega) (by omega) (by omega) ⟨fun z hz => by rw [z_up_ne (by omega), zRow_ne _ _ _ _ (by omega)]; exact f1 z (by omega), ⟨by rw [z_up_ne (by decide), zRow_ne _ _ _ _ (by decide)]; exact e0, fun k k0 k1 => ⟨by rw [z_up_ne (by decide), zRow_ne _ _ _ _ (by decide), f1 _ (by decide)]; exact (Hc.2 k k0 k1).1, ?_⟩⟩, by rw [z_up_ne (by decide), zRow_ne _ _ _ _ (by decide)]; exact e1, by rw [z_up_ne (by decide), zRow_ne _ _ _ _ (by decide)]; exact e3, fun i i0 i1 => by omega, fun j j0 j1 => by omega, fun _ => ⟨by rw [z_up_ne (by decide), zRow_ne _ _ _ _ (by decide)]; exact e2, z_up_eq, fun w w0 w1 => ?_⟩, fun h => by omega⟩
    · by_cases ek : k = 0
      · rw [ek, show (490 : Int) + 2 * 0 = 490 by omega, z_up_sl (by decide), zRow_ne _ _ _ _ (by decide), f1 _ (by decide)]
        exact h0.2
      · rw [z_up_ne (by omega), zRow_ne _ _ _ _ (by omega), f1 _ (by omega)]
        exact (Hc.2 k k0 k1).2
    · rw [z_up_ne (by decide)]
      exact zRow_at _ _ _ w0 w1
  · refine zr_return dX3_take_25 rfl ?_
    have e : zSt G = 0 := Classical.byContradiction fun n => h22 n
    have en : zRn G = 0 := if_pos e
    exact ⟨rfl, rfl, fun z hz => f1 z (by omega), ⟨e0, fun k k0 k1 => by rw [f1 _ (by omega), f1 _ (by omega)]; exact Hc.2 k k0 k1⟩, by rw [en]; exact e1, by rw [e2]; exact (if_pos e).symm, by rw [en]; exact e3, fun i i0 i1 => by omega⟩
end ZCO
