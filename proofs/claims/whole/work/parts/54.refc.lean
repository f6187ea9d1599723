/-! dep: 50 51 52 -/
/-! ===== the reference counts ===== -/
/-- a stretch of a row written anew -/
def zRwo (M : zM) (z p : Int) (f : Int → Int) (n : Int) : zM := fun a j => if a = z ∧ p ≤ j ∧ j < p + n then f (j - p) else M a j
theorem zRwo_0 (M : zM) (z p : Int) (f : Int → Int) : zRwo M z p f 0 = M := by
  funext a j
  unfold zRwo
  rw [if_neg (by omega)]
theorem zRwo_s (M : zM) (z p : Int) (f : Int → Int) {n : Int} (h : 0 ≤ n) : z_up (zRwo M z p f n) z (p + n) (f n) = zRwo M z p f (n + 1) := by
  funext a j
  unfold z_up zRwo
  by_cases e : a = z ∧ j = p + n
  · rw [if_pos e, if_pos (by omega), e.2, show p + n - p = n by omega]
  · rw [if_neg e]
    by_cases e2 : a = z ∧ p ≤ j ∧ j < p + n
    · rw [if_pos e2, if_pos (by omega)]
    · rw [if_neg e2, if_neg (by omega)]
theorem zRwo_ne (M : zM) (z p : Int) (f : Int → Int) (n : Int) {a : Int} (h : a ≠ z) : zRwo M z p f n a = M a := by
  funext j
  unfold zRwo
  rw [if_neg (fun c => h c.1)]
theorem zRwo_at (M : zM) (z p : Int) (f : Int → Int) {n j : Int} (h0 : 0 ≤ j) (h1 : j < n) : zRwo M z p f n z (p + j) = f j := by
  unfold zRwo
  rw [if_pos ⟨rfl, by omega, by omega⟩, show p + j - p = j by omega]
theorem zRwo_out (M : zM) (z p : Int) (f : Int → Int) {n a j : Int} (h : ¬ (p ≤ j ∧ j < p + n)) : zRwo M z p f n a j = M a j := by
  unfold zRwo
  rw [if_neg (fun c => h c.2)]
section ZRC
variable {M : zM} {A : Int → Bool} {S n : Int}
/-- round n's row, its first k ballots counted -/
def zJm (M M' : zM) (n : Int) (G : Int → Int) (A : Int → Bool) (k : Int) : Prop := (∀ z, z ≠ 524 → z ≠ 525 → M' z = M z) ∧ (∀ w, 0 ≤ w → w < 8 → M' 524 (8 * n + w) = zVk G A k w) ∧ (∀ j, j < 8 * n → M' 524 j = M 524 j) ∧ M' 525 n = zXk G A k ∧ ∀ j, j < n → M' 525 j = M 525 j
theorem s_X12_countsRound_a (H : zHm M) (hn : 0 ≤ n ∧ n < 8) (hS : zBits S A) {bc bs : Nat} {Q : zV → zS → zM → Prop} (kk : z_Ex mX12_countsRound zF 44 [(1, 517), (0, S), (0, 8 * n), (0, 8), (9, 0)] [] (zRwo M 524 (8 * n) (zVk (M 518) A 0) 8) bc bs Q) : ∀ (m : Nat) (k : Int), 0 ≤ k → k ≤ 8 → 8 - k < m →
    z_Ex mX12_countsRound zF 10 [(1, 517), (0, S), (0, 8 * n), (0, k), (9, 0)] [] (zRwo M 524 (8 * n) (zVk (M 518) A 0) k) bc bs Q := by
  intro m
  induction m with
  | zero => intro k h0 h1 h2; omega
  | succ m ih =>
    intro k h0 h1 h2
    have e := ih (k + 1) (by omega)
    rw [← zRwo_s _ _ _ _ h0] at e
    refine zp_il3 (q := 11) dX12_countsRound_10 rfl ?_
    refine zr_bipush (q := 13) dX12_countsRound_11 rfl (z_in_of rfl) (by decide +kernel) ?_
    refine zr_icmp_ge (q := 44) (q2 := 16) dX12_countsRound_13 (by decide) rfl (fun h13 => ?_) (fun h13 => ?_)
    · have e8 : k = 8 := by omega
      subst e8
      exact kk
    · refine zp_al0 (q := 17) dX12_countsRound_16 rfl ?_
      refine zf_getG (v := 524) 14 (k517) (by rw [zRwo_ne _ _ _ _ _ (by decide)]; exact H.2.2.2.2.2.2.1) rfl fdX12_36 (q := 20) dX12_countsRound_17 rfl rfl ?_
      refine zp_il2 (q := 21) dX12_countsRound_20 rfl ?_
      refine zp_il3 (q := 22) dX12_countsRound_21 rfl ?_
      refine zr_iadd (q := 23) dX12_countsRound_22 rfl (fun hA hB => by unfold z_in at hA hB ⊢; omega) ?_
      refine zp_il1 (q := 24) dX12_countsRound_23 rfl ?_
      refine zp_il3 (q := 25) dX12_countsRound_24 rfl ?_
      have hs9 := hS.1
      refine zr_ishr (q := 26) hs9.1 hs9.2 h0 (by omega) dX12_countsRound_25 rfl ?_
      refine zr_iconst (q := 27) dX12_countsRound_26 rfl (z_in_of rfl) ?_
      refine zr_iand (q := 28) (Int.natCast_nonneg _) (by omega) dX12_countsRound_27 rfl ?_
      have hb9 := hS.bit h0 (show k < 8 by omega)
      rw [show ((((S.toNat >>> k.toNat : Nat) : Int)).toNat &&& (1 : Int).toNat : Nat) = (if A k = true then 1 else 0) by rw [Int.toNat_natCast]; exact hb9]
      refine zr_iconst (q := 29) dX12_countsRound_28 rfl (z_in_of rfl) ?_
      refine zr_icmp_ne (q := 36) (q2 := 32) dX12_countsRound_29 (by decide) rfl (fun h29 => ?_) (fun h29 => ?_)
      · refine zr_iconst (q := 37) dX12_countsRound_36 rfl (z_in_of rfl) ?_
        refine zf_iast (by first | assumption | exact k518 | exact k519 | exact k520 | exact k521 | exact k522 | exact k523 | exact k524 | exact k525 | exact k526 | exact k527 | exact k528 | exact k510 | exact k512 | exact k515 | exact k516 | exact k507 | exact k509 | exact k135 | exact k489 | exact k529 | exact k530) (q := 38) dX12_countsRound_37 rfl (by omega) (by omega) ?_
        refine zp_inc3 (q := 41) dX12_countsRound_38 rfl rfl rfl (fun hA => by unfold z_in at hA ⊢; omega) ?_
        refine zr_goto (q := 10) dX12_countsRound_41 (by decide) ?_
        first
        | (have t28 : ¬ (((if A k = true then 1 else 0 : Nat) : Int) ≠ 1) := h29
           have c : A k = true := Classical.byContradiction fun c => t28 (by rw [if_neg c]; decide)
           rw [show zVk (M 518) A 0 k = 0 by rw [zVk_0, if_pos c]] at e
           exact e (by omega) (by omega))
        | (have t28 : ((if A k = true then 1 else 0 : Nat) : Int) ≠ 1 := h29
           have c : ¬ A k = true := fun c => t28 (by rw [if_pos c]; rfl)
           rw [show zVk (M 518) A 0 k = -1 by rw [zVk_0, if_neg c]] at e
           exact e (by omega) (by omega))
      · refine zr_iconst (q := 33) dX12_countsRound_32 rfl (z_in_of rfl) ?_
        refine zr_goto (q := 37) dX12_countsRound_33 (by decide) ?_
        refine zf_iast (by first | assumption | exact k518 | exact k519 | exact k520 | exact k521 | exact k522 | exact k523 | exact k524 | exact k525 | exact k526 | exact k527 | exact k528 | exact k510 | exact k512 | exact k515 | exact k516 | exact k507 | exact k509 | exact k135 | exact k489 | exact k529 | exact k530) (q := 38) dX12_countsRound_37 rfl (by omega) (by omega) ?_
        refine zp_inc3 (q := 41) dX12_countsRound_38 rfl rfl rfl (fun hA => by unfold z_in at hA ⊢; omega) ?_
        refine zr_goto (q := 10) dX12_countsRound_41 (by decide) ?_
        first
        | (have t28 : ¬ (((if A k = true then 1 else 0 : Nat) : Int) ≠ 1) := h29
           have c : A k = true := Classical.byContradiction fun c => t28 (by rw [if_neg c]; decide)
           rw [show zVk (M 518) A 0 k = 0 by rw [zVk_0, if_pos c]] at e
           exact e (by omega) (by omega))
        | (have t28 : ((if A k = true then 1 else 0 : Nat) : Int) ≠ 1 := h29
           have c : ¬ A k = true := fun c => t28 (by rw [if_pos c]; rfl)
           rw [show zVk (M 518) A 0 k = -1 by rw [zVk_0, if_neg c]] at e
           exact e (by omega) (by omega))
theorem zJm_add (hG : zWF (M 518)) {M1 : zM} {k : Int} (hJ : zJm M M1 n (M 518) A k) (k0 : 0 ≤ k) (k1 : k < M 518 1) : zJm M (if zTop (M 518) A k = -1 then z_up M1 525 n (M1 525 n + M 518 (20 + 7 * k)) else z_up M1 524 (8 * n + zTop (M 518) A k) (M1 524 (8 * n + zTop (M 518) A k) + M 518 (20 + 7 * k))) n (M 518) A (k + 1) := by
  obtain ⟨j1, j2, j3, j4, j5⟩ := hJ
  have hw := hG.w
  have x1 : zXk (M 518) A (k + 1) = zXk (M 518) A k + if zTop (M 518) A k = -1 then M 518 (20 + 7 * k) else 0 := zU_s _ k0
  rcases zTop_cases hG A k0 k1 with ⟨a, _⟩ | ⟨a, b, c⟩
  · rw [if_pos a] at x1 ⊢
    refine ⟨fun z z1 z2 => by rw [z_up_ne z2]; exact j1 z z1 z2, fun w w0 w1 => ?_, fun j hj => by rw [z_up_ne (by decide)]; exact j3 j hj, by rw [z_up_eq, j4, x1], fun j hj => by rw [z_up_sl (by omega)]; exact j5 j hj⟩
    rw [z_up_ne (by decide), j2 w w0 w1]
    cases hA : A w with
    | true => rw [zVk_s A k0 w hA, if_neg (by omega), Int.add_zero]
    | false => rw [zVk_n A _ w hA, zVk_n A _ w hA]
  · rw [if_neg (show ¬ zTop (M 518) A k = -1 by omega)] at x1 ⊢
    refine ⟨fun z z1 z2 => by rw [z_up_ne z1]; exact j1 z z1 z2, fun w w0 w1 => ?_, fun j hj => by rw [z_up_sl (by omega)]; exact j3 j hj, by rw [z_up_ne (by decide), j4, x1, Int.add_zero], fun j hj => by rw [z_up_ne (by decide)]; exact j5 j hj⟩
    by_cases ew : w = zTop (M 518) A k
    · rw [ew, z_up_eq, j2 _ a (by omega), zVk_s A k0 _ c, if_pos rfl]
    · rw [z_up_sl (by omega), j2 w w0 w1]
      cases hA : A w with
      | true => rw [zVk_s A k0 w hA, if_neg (fun e => ew e.symm), Int.add_zero]
      | false => rw [zVk_n A _ w hA, zVk_n A _ w hA]
/-- the rank at which a ballot counts, or its length -/
def zRi (G : Int → Int) (A : Int → Bool) (b : Int) : Int := if zTp G A b = -1 then G (20 + 7 * b + 1) else zTp G A b
theorem s_X12_countsRound_w (H : zHm M) (hG : zWF (M 518)) (hn : 0 ≤ n ∧ n < 8) {M1 : zM} {b : Int} (hJ : zJm M M1 n (M 518) A b) (b0 : 0 ≤ b) (b1 : b < M 518 1) {bc bs : Nat} {Q : zV → zS → zM → Prop} (kk : z_Ex mX12_countsRound zF 105 [(1, 517), (0, S), (0, 8 * n), (0, b), (0, zRi (M 518) A b)] [] M1 bc bs Q) : ∀ (m : Nat) (k : Int), 0 ≤ k → k ≤ M 518 (20 + 7 * b + 1) → M 518 (20 + 7 * b + 1) - k < m → (∀ j, 0 ≤ j → j < k → A (M 518 (20 + 7 * b + 2 + j)) = false) →
    z_Ex mX12_countsRound zF 69 [(1, 517), (0, S), (0, 8 * n), (0, b), (0, k)] [] M1 bc bs Q := by
  have H1 : zHm M1 := H.of (fun j _ _ _ _ _ => congrFun (hJ.1 517 (by decide) (by decide)) j)
  have e8 : M1 518 = M 518 := hJ.1 518 (by decide) (by decide)
  have hz := hG.sz b0 b1
  have hn1 := hG.n
  have hw := hG.w
  intro m
  induction m with
  | zero => intro k h0 h1 h2; omega
  | succ m ih =>
    intro k h0 h1 h2 h3
    refine zp_il4 (q := 71) dX12_countsRound_69 rfl ?_
    refine zp_al0 (q := 72) dX12_countsRound_71 rfl ?_
    refine zp_il3 (q := 73) dX12_countsRound_72 rfl ?_
    refine zr_iconst (q := 74) dX12_countsRound_73 rfl (z_in_of rfl) ?_
    refine zf_callV2 (k517) (s_X12_of H1 b0 (by omega) (by omega) (by omega)) mtX12_of wiX12_of weX12_of wlX12_91 (q := 77) dX12_countsRound_74 rfl rfl rfl rfl rfl rfl rfl (fun r S9 M9 h8 hP => ?_) (fun k S9 M9 hP => (z_no hP.1 rfl).elim)
    obtain ⟨rfl, rfl, h9⟩ := hP
    subst h9
    rw [e8]
    refine zr_icmp_ge (q := 105) (q2 := 80) dX12_countsRound_77 (by decide) rfl (fun h77 => ?_) (fun h77 => ?_)
    · first
      | (have t96 : (0 : Int) ≤ zVk (M 518) A b (M 518 (20 + 7 * b + 2 + k)) := h96
         have c : A (M 518 (20 + 7 * b + 2 + k)) = true := by
           cases c : A (M 518 (20 + 7 * b + 2 + k)) with
           | true => rfl
           | false => have := (zVk_ne hG A b0 (Int.le_of_lt b1) _).mpr c; omega
         have c2 : zTp (M 518) A b = k := zFs_yes h0 (by omega) c h3
         have c3 : zRi (M 518) A b = k := by unfold zRi; rw [c2, if_neg (by omega)]
         rw [c3] at kk
         exact kk)
      | (have c2 : zTp (M 518) A b = -1 := zFs_no (fun j j0 j1 => h3 j j0 (by omega))
         have c3 : zRi (M 518) A b = k := by unfold zRi; rw [if_pos c2]; omega
         rw [c3] at kk
         exact kk)
    · have hk := hG.rk b0 b1 k h0 (by omega)
      refine zp_al0 (q := 81) dX12_countsRound_80 rfl ?_
      refine zf_getG (v := 524) 14 (k517) (H1.2.2.2.2.2.2.1) rfl fdX12_36 (q := 84) dX12_countsRound_81 rfl rfl ?_
      refine zp_il2 (q := 85) dX12_countsRound_84 rfl ?_
      refine zp_al0 (q := 86) dX12_countsRound_85 rfl ?_
      refine zp_il3 (q := 87) dX12_countsRound_86 rfl ?_
      refine zr_iconst (q := 88) dX12_countsRound_87 rfl (z_in_of rfl) ?_
      refine zp_il4 (q := 90) dX12_countsRound_88 rfl ?_
      refine zr_iadd (q := 91) dX12_countsRound_90 rfl (fun hA hB => by unfold z_in at hA hB ⊢; omega) ?_
      refine zf_callV2 (k517) (s_X12_of H1 b0 (by omega) (by omega) (by omega)) mtX12_of wiX12_of weX12_of wlX12_91 (q := 94) dX12_countsRound_91 rfl rfl rfl rfl rfl rfl rfl (fun r S9 M9 h8 hP => ?_) (fun k S9 M9 hP => (z_no hP.1 rfl).elim)
      obtain ⟨rfl, rfl, h9⟩ := hP
      subst h9
      rw [e8, show 20 + 7 * b + (2 + k) = 20 + 7 * b + 2 + k by omega]
      refine zr_iadd (q := 95) dX12_countsRound_94 rfl (fun hA hB => by unfold z_in at hA hB ⊢; omega) ?_
      refine zf_iald (v := zVk (M 518) A b (M 518 (20 + 7 * b + 2 + k))) (by first | assumption | exact k518 | exact k519 | exact k520 | exact k521 | exact k522 | exact k523 | exact k524 | exact k525 | exact k526 | exact k527 | exact k528 | exact k510 | exact k512 | exact k515 | exact k516 | exact k507 | exact k509 | exact k135 | exact k489 | exact k529 | exact k530) (hJ.2.1 _ hk.1 (by omega)) (q := 96) dX12_countsRound_95 rfl (by omega) (by omega) ?_
      refine zr_if_ge (q := 105) (q2 := 99) dX12_countsRound_96 (by decide) rfl (fun h96 => ?_) (fun h96 => ?_)
      · first
        | (have t96 : (0 : Int) ≤ zVk (M 518) A b (M 518 (20 + 7 * b + 2 + k)) := h96
           have c : A (M 518 (20 + 7 * b + 2 + k)) = true := by
             cases c : A (M 518 (20 + 7 * b + 2 + k)) with
             | true => rfl
             | false => have := (zVk_ne hG A b0 (Int.le_of_lt b1) _).mpr c; omega
           have c2 : zTp (M 518) A b = k := zFs_yes h0 (by omega) c h3
           have c3 : zRi (M 518) A b = k := by unfold zRi; rw [c2, if_neg (by omega)]
           rw [c3] at kk
           exact kk)
        | (have c2 : zTp (M 518) A b = -1 := zFs_no (fun j j0 j1 => h3 j j0 (by omega))
           have c3 : zRi (M 518) A b = k := by unfold zRi; rw [if_pos c2]; omega
           rw [c3] at kk
           exact kk)
      · refine zp_inc4 (q := 102) dX12_countsRound_99 rfl rfl rfl (fun hA => by unfold z_in at hA ⊢; omega) ?_
        refine zr_goto (q := 69) dX12_countsRound_102 (by decide) ?_
        exact ih (k + 1) (by omega) (by omega) (by omega) (fun j j0 j1 => by
          by_cases e : j = k
          · rw [e]
            have c := zVk_range hG A b0 (Int.le_of_lt b1) (M 518 (20 + 7 * b + 2 + k))
            exact (zVk_ne hG A b0 (Int.le_of_lt b1) _).mp (by omega)
          · exact h3 j j0 (by omega))
theorem s_X12_countsRound_b (H : zHm M) (hG : zWF (M 518)) (hn : 0 ≤ n ∧ n < 8) (h18 : M 517 18 = n) {bc bs : Nat} : ∀ (m : Nat) (k : Int) (M1 : zM), 0 ≤ k → k ≤ M 518 1 → M 518 1 - k < m → zJm M M1 n (M 518) A k →
    z_Ex mX12_countsRound zF 56 [(1, 517), (0, S), (0, 8 * n), (0, k), (9, 0)] [] M1 bc bs (fun r S' M' => r = (9, 0) ∧ S' = zF ∧ zJm M M' n (M 518) A (M 518 1)) := by
  have hn1 := hG.n
  have hw := hG.w
  intro m
  induction m with
  | zero => intro k M1 h0 h1 h2; omega
  | succ m ih =>
    intro k M1 h0 h1 h2 hJ
    have H1 : zHm M1 := H.of (fun j _ _ _ _ _ => congrFun (hJ.1 517 (by decide) (by decide)) j)
    have e8 : M1 518 = M 518 := hJ.1 518 (by decide) (by decide)
    have e18 : M1 517 18 = n := (congrFun (hJ.1 517 (by decide) (by decide)) 18).trans h18
    have kk : k < M 518 1 → z_Ex mX12_countsRound zF 105 [(1, 517), (0, S), (0, 8 * n), (0, k), (0, zRi (M 518) A k)] [] M1 bc bs (fun r S' M' => r = (9, 0) ∧ S' = zF ∧ zJm M M' n (M 518) A (M 518 1)) := by
      intro hk
      have hz := hG.sz h0 hk
      have hwt := hG.wt h0 hk
      have hadd := zJm_add hG hJ h0 hk
      have hxr := zXk_range hG A h0 h1
      rcases zTop_cases hG A h0 hk with ⟨a, a2, _⟩ | ⟨a, b, c⟩
      · have er : zRi (M 518) A k = M 518 (20 + 7 * k + 1) := by unfold zRi; rw [if_pos a2]
        rw [er]
        rw [if_pos a] at hadd
        refine zp_il4 (q := 107) dX12_countsRound_105 rfl ?_
        refine zp_al0 (q := 108) dX12_countsRound_107 rfl ?_
        refine zp_il3 (q := 109) dX12_countsRound_108 rfl ?_
        refine zr_iconst (q := 110) dX12_countsRound_109 rfl (z_in_of rfl) ?_
        refine zf_callV2 (k517) (s_X12_of H1 h0 (by omega) (by omega) (by omega)) mtX12_of wiX12_of weX12_of wlX12_91 (q := 113) dX12_countsRound_110 rfl rfl rfl rfl rfl rfl rfl (fun r S9 M9 h8 hP => ?_) (fun k S9 M9 hP => (z_no hP.1 rfl).elim)
        obtain ⟨rfl, rfl, h9⟩ := hP
        subst h9
        rw [e8]
        refine zr_icmp_ge (q := 144) (q2 := 116) dX12_countsRound_113 (by decide) rfl (fun h113 => ?_) (fun h113 => ?_)
        · refine zp_al0 (q := 145) dX12_countsRound_144 rfl ?_
          refine zf_getG (v := 525) 15 (k517) (H1.2.2.2.2.2.2.2.1) rfl fdX12_39 (q := 148) dX12_countsRound_145 rfl rfl ?_
          refine zp_al0 (q := 149) dX12_countsRound_148 rfl ?_
          refine zf_getG (v := n) 18 (k517) (e18) rfl fdX12_110 (q := 152) dX12_countsRound_149 rfl rfl ?_
          refine zr_dup2 (q := 153) dX12_countsRound_152 rfl (Or.inl rfl) (Or.inr rfl) ?_
          refine zf_iald (v := zXk (M 518) A k) (by first | assumption | exact k518 | exact k519 | exact k520 | exact k521 | exact k522 | exact k523 | exact k524 | exact k525 | exact k526 | exact k527 | exact k528 | exact k510 | exact k512 | exact k515 | exact k516 | exact k507 | exact k509 | exact k135 | exact k489 | exact k529 | exact k530) (hJ.2.2.2.1) (q := 154) dX12_countsRound_153 rfl (by omega) (by omega) ?_
          refine zp_al0 (q := 155) dX12_countsRound_154 rfl ?_
          refine zp_il3 (q := 156) dX12_countsRound_155 rfl ?_
          refine zr_iconst (q := 157) dX12_countsRound_156 rfl (z_in_of rfl) ?_
          refine zf_callV2 (k517) (s_X12_of H1 h0 (by omega) (by omega) (by omega)) mtX12_of wiX12_of weX12_of wlX12_91 (q := 160) dX12_countsRound_157 rfl rfl rfl rfl rfl rfl rfl (fun r S9 M9 h8 hP => ?_) (fun k S9 M9 hP => (z_no hP.1 rfl).elim)
          obtain ⟨rfl, rfl, h9⟩ := hP
          subst h9
          rw [e8, Int.add_zero]
          refine zr_iadd (q := 161) dX12_countsRound_160 rfl (fun hA hB => by unfold z_in at hA hB ⊢; omega) ?_
          refine zf_iast (by first | assumption | exact k518 | exact k519 | exact k520 | exact k521 | exact k522 | exact k523 | exact k524 | exact k525 | exact k526 | exact k527 | exact k528 | exact k510 | exact k512 | exact k515 | exact k516 | exact k507 | exact k509 | exact k135 | exact k489 | exact k529 | exact k530) (q := 162) dX12_countsRound_161 rfl (by omega) (by omega) ?_
          refine zp_inc3 (q := 165) dX12_countsRound_162 rfl rfl rfl (fun hA => by unfold z_in at hA ⊢; omega) ?_
          refine zr_goto (q := 56) dX12_countsRound_165 (by decide) ?_
          rw [hJ.2.2.2.1] at hadd
          exact zr_drop 4 (ih (k + 1) _ (by omega) (by omega) (by omega) hadd)
        · exact absurd h113 (by omega)
      · have h1t : ¬ zTp (M 518) A k = -1 := fun e => by
          have : zTop (M 518) A k = -1 := if_pos e
          omega
        have er : zRi (M 518) A k = zTp (M 518) A k := by unfold zRi; rw [if_neg h1t]
        have et : zTop (M 518) A k = M 518 (20 + 7 * k + 2 + zTp (M 518) A k) := if_neg h1t
        have hp : 0 ≤ zTp (M 518) A k ∧ zTp (M 518) A k < M 518 (20 + 7 * k + 1) := by
          rcases zFs_cases (fun j => A (M 518 (20 + 7 * k + 2 + j))) (M 518 (20 + 7 * k + 1)) with ⟨x, _⟩ | ⟨x, y, _⟩
          · exact absurd x h1t
          · exact ⟨x, y⟩
        have hv := zVk_range hG A h0 h1 (zTop (M 518) A k)
        rw [er]
        rw [if_neg (show ¬ zTop (M 518) A k = -1 by omega)] at hadd
        refine zp_il4 (q := 107) dX12_countsRound_105 rfl ?_
        refine zp_al0 (q := 108) dX12_countsRound_107 rfl ?_
        refine zp_il3 (q := 109) dX12_countsRound_108 rfl ?_
        refine zr_iconst (q := 110) dX12_countsRound_109 rfl (z_in_of rfl) ?_
        refine zf_callV2 (k517) (s_X12_of H1 h0 (by omega) (by omega) (by omega)) mtX12_of wiX12_of weX12_of wlX12_91 (q := 113) dX12_countsRound_110 rfl rfl rfl rfl rfl rfl rfl (fun r S9 M9 h8 hP => ?_) (fun k S9 M9 hP => (z_no hP.1 rfl).elim)
        obtain ⟨rfl, rfl, h9⟩ := hP
        subst h9
        rw [e8]
        refine zr_icmp_ge (q := 144) (q2 := 116) dX12_countsRound_113 (by decide) rfl (fun h113 => ?_) (fun h113 => ?_)
        · exact absurd h113 (by omega)
        · refine zp_al0 (q := 117) dX12_countsRound_116 rfl ?_
          refine zf_getG (v := 524) 14 (k517) (H1.2.2.2.2.2.2.1) rfl fdX12_36 (q := 120) dX12_countsRound_117 rfl rfl ?_
          refine zp_il2 (q := 121) dX12_countsRound_120 rfl ?_
          refine zp_al0 (q := 122) dX12_countsRound_121 rfl ?_
          refine zp_il3 (q := 123) dX12_countsRound_122 rfl ?_
          refine zr_iconst (q := 124) dX12_countsRound_123 rfl (z_in_of rfl) ?_
          refine zp_il4 (q := 126) dX12_countsRound_124 rfl ?_
          refine zr_iadd (q := 127) dX12_countsRound_126 rfl (fun hA hB => by unfold z_in at hA hB ⊢; omega) ?_
          refine zf_callV2 (k517) (s_X12_of H1 h0 (by omega) (by omega) (by omega)) mtX12_of wiX12_of weX12_of wlX12_91 (q := 130) dX12_countsRound_127 rfl rfl rfl rfl rfl rfl rfl (fun r S9 M9 h8 hP => ?_) (fun k S9 M9 hP => (z_no hP.1 rfl).elim)
          obtain ⟨rfl, rfl, h9⟩ := hP
          subst h9
          rw [e8, show 20 + 7 * k + (2 + zTp (M 518) A k) = 20 + 7 * k + 2 + zTp (M 518) A k by omega, ← et]
          refine zr_iadd (q := 131) dX12_countsRound_130 rfl (fun hA hB => by unfold z_in at hA hB ⊢; omega) ?_
          refine zr_dup2 (q := 132) dX12_countsRound_131 rfl (Or.inl rfl) (Or.inr rfl) ?_
          refine zf_iald (v := zVk (M 518) A k (zTop (M 518) A k)) (by first | assumption | exact k518 | exact k519 | exact k520 | exact k521 | exact k522 | exact k523 | exact k524 | exact k525 | exact k526 | exact k527 | exact k528 | exact k510 | exact k512 | exact k515 | exact k516 | exact k507 | exact k509 | exact k135 | exact k489 | exact k529 | exact k530) (hJ.2.1 _ a (by omega)) (q := 133) dX12_countsRound_132 rfl (by omega) (by omega) ?_
          refine zp_al0 (q := 134) dX12_countsRound_133 rfl ?_
          refine zp_il3 (q := 135) dX12_countsRound_134 rfl ?_
          refine zr_iconst (q := 136) dX12_countsRound_135 rfl (z_in_of rfl) ?_
          refine zf_callV2 (k517) (s_X12_of H1 h0 (by omega) (by omega) (by omega)) mtX12_of wiX12_of weX12_of wlX12_91 (q := 139) dX12_countsRound_136 rfl rfl rfl rfl rfl rfl rfl (fun r S9 M9 h8 hP => ?_) (fun k S9 M9 hP => (z_no hP.1 rfl).elim)
          obtain ⟨rfl, rfl, h9⟩ := hP
          subst h9
          rw [e8, Int.add_zero]
          refine zr_iadd (q := 140) dX12_countsRound_139 rfl (fun hA hB => by unfold z_in at hA hB ⊢; omega) ?_
          refine zf_iast (by first | assumption | exact k518 | exact k519 | exact k520 | exact k521 | exact k522 | exact k523 | exact k524 | exact k525 | exact k526 | exact k527 | exact k528 | exact k510 | exact k512 | exact k515 | exact k516 | exact k507 | exact k509 | exact k135 | exact k489 | exact k529 | exact k530) (q := 141) dX12_countsRound_140 rfl (by omega) (by omega) ?_
          refine zr_goto (q := 162) dX12_countsRound_141 (by decide) ?_
          refine zp_inc3 (q := 165) dX12_countsRound_162 rfl rfl rfl (fun hA => by unfold z_in at hA ⊢; omega) ?_
          refine zr_goto (q := 56) dX12_countsRound_165 (by decide) ?_
          rw [hJ.2.1 _ a (by omega)] at hadd
          exact zr_drop 4 (ih (k + 1) _ (by omega) (by omega) (by omega) hadd)
    refine zp_il3 (q := 57) dX12_countsRound_56 rfl ?_
    refine zp_al0 (q := 58) dX12_countsRound_57 rfl ?_
    refine zf_getG (v := 518) 0 (k517) (H1.1) rfl fdX12_7 (q := 61) dX12_countsRound_58 rfl rfl ?_
    refine zr_iconst (q := 62) dX12_countsRound_61 rfl (z_in_of rfl) ?_
    refine zf_iald (v := M 518 1) (by first | assumption | exact k518 | exact k519 | exact k520 | exact k521 | exact k522 | exact k523 | exact k524 | exact k525 | exact k526 | exact k527 | exact k528 | exact k510 | exact k512 | exact k515 | exact k516 | exact k507 | exact k509 | exact k135 | exact k489 | exact k529 | exact k530) (by rw [e8]) (q := 63) dX12_countsRound_62 rfl (by omega) (by omega) ?_
    refine zr_icmp_ge (q := 168) (q2 := 66) dX12_countsRound_63 (by decide) rfl (fun h63 => ?_) (fun h63 => ?_)
    · refine zr_return dX12_countsRound_168 rfl ?_
      have e : k = M 518 1 := by omega
      subst e
      exact ⟨rfl, rfl, hJ⟩
    · refine zr_iconst (q := 67) dX12_countsRound_66 rfl (z_in_of rfl) ?_
      refine zp_is4 (q := 69) dX12_countsRound_67 rfl rfl rfl ?_
      have hz9 := hG.sz h0 (show k < M 518 1 by omega)
      exact s_X12_countsRound_w H hG hn hJ h0 (by omega) (kk (by omega)) 6 0 (by omega) (by omega) (by omega) (fun j a1 a2 => by omega)
theorem s_X12_countsRound (H : zHm M) (hG : zWF (M 518)) (hn : 0 ≤ n ∧ n < 8) (h18 : M 517 18 = n) (hS : zBits S A) : z_Call mX12_countsRound zF [(1, 517), (0, S)] M (fun r S' M' => r = (9, 0) ∧ S' = zF ∧ zJm M M' n (M 518) A (M 518 1)) := by
  have hn1 := hG.n
  have kk : z_Ex mX12_countsRound zF 44 [(1, 517), (0, S), (0, 8 * n), (0, 8), (9, 0)] [] (zRwo M 524 (8 * n) (zVk (M 518) A 0) 8) mX12_countsRound.2.2.2.2.2.1 mX12_countsRound.2.2.2.2.2.2.1 (fun r S' M' => r = (9, 0) ∧ S' = zF ∧ zJm M M' n (M 518) A (M 518 1)) := by
    refine zp_al0 (q := 45) dX12_countsRound_44 rfl ?_
    refine zf_getG (v := 525) 15 (k517) (by rw [zRwo_ne _ _ _ _ _ (by decide)]; exact H.2.2.2.2.2.2.2.1) rfl fdX12_39 (q := 48) dX12_countsRound_45 rfl rfl ?_
    refine zp_al0 (q := 49) dX12_countsRound_48 rfl ?_
    refine zf_getG (v := n) 18 (k517) (by rw [zRwo_ne _ _ _ _ _ (by decide)]; exact h18) rfl fdX12_110 (q := 52) dX12_countsRound_49 rfl rfl ?_
    refine zr_iconst (q := 53) dX12_countsRound_52 rfl (z_in_of rfl) ?_
    refine zf_iast (by first | assumption | exact k518 | exact k519 | exact k520 | exact k521 | exact k522 | exact k523 | exact k524 | exact k525 | exact k526 | exact k527 | exact k528 | exact k510 | exact k512 | exact k515 | exact k516 | exact k507 | exact k509 | exact k135 | exact k489 | exact k529 | exact k530) (q := 54) dX12_countsRound_53 rfl (by omega) (by omega) ?_
    refine zr_iconst (q := 55) dX12_countsRound_54 rfl (z_in_of rfl) ?_
    refine zp_is3 (q := 56) dX12_countsRound_55 rfl rfl rfl ?_
    exact s_X12_countsRound_b H hG hn h18 21 0 _ (by omega) (by omega) (by omega) ⟨fun z z1 z2 => by rw [z_up_ne z2, zRwo_ne _ _ _ _ _ z1], fun w w0 w1 => by rw [z_up_ne (by decide), zRwo_at _ _ _ _ w0 w1], fun j hj => by rw [z_up_ne (by decide), zRwo_out _ _ _ _ (by omega)], z_up_eq, fun j hj => by rw [z_up_sl (by omega), zRwo_ne _ _ _ _ _ (by decide)]⟩
  refine z_enter (k := 3) rfl rfl rfl ?_
  refine zr_bipush (q := 2) dX12_countsRound_0 rfl (z_in_of rfl) (by decide +kernel) ?_
  refine zp_al0 (q := 3) dX12_countsRound_2 rfl ?_
  refine zf_getG (v := n) 18 (k517) (h18) rfl fdX12_110 (q := 6) dX12_countsRound_3 rfl rfl ?_
  refine zr_imul (q := 7) dX12_countsRound_6 rfl (fun hA hB => by unfold z_in at hA hB ⊢; omega) ?_
  refine zp_is2 (q := 8) dX12_countsRound_7 rfl rfl rfl ?_
  refine zr_iconst (q := 9) dX12_countsRound_8 rfl (z_in_of rfl) ?_
  refine zp_is3 (q := 10) dX12_countsRound_9 rfl rfl rfl ?_
  have e := s_X12_countsRound_a H hn hS kk 9 0 (by omega) (by omega) (by omega)
  rw [zRwo_0] at e
  exact e
end ZRC
