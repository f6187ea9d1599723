/-! dep: 50 51 52 -/
/-! ===== WindElection$Piles ===== -/
def zHp (M : zM) : Prop := M 506 0 = 507 ∧ M 506 1 = 508 ∧ M 508 0 = 509
theorem ro508 : zRo 508 := Or.inr rfl
/-- the votes as the piles have them -/
def zVp (G : Int → Int) (P : Int → Int) (A : Int → Bool) (w : Int) : Int := if A w = true then zU (fun b => if P b = w then G (20 + 7 * b) else 0) (G 1) else -1
def zLess (A : Int → Bool) (e : Int) : Int → Bool := fun w => A w && decide (w ≠ e)
section ZPI
variable {M : zM} {a : Int} {G : Int → Int} {A : Int → Bool}
theorem zLess_e (A : Int → Bool) (e : Int) : zLess A e e = false := by
  unfold zLess
  rw [decide_eq_false (fun n => n rfl), Bool.and_false]
theorem zLess_n (A : Int → Bool) {e w : Int} (h : w ≠ e) : zLess A e w = A w := by
  unfold zLess
  rw [decide_eq_true h, Bool.and_true]
/-- ballots on other piles stay -/
theorem zTop_keep (hG : zWF G) (A : Int → Bool) {b e : Int} (b0 : 0 ≤ b) (b1 : b < G 1) (h : zTop G A b ≠ e) : zTop G (zLess A e) b = zTop G A b := by
  rcases zFs_cases (fun k => A (G (20 + 7 * b + 2 + k))) (G (20 + 7 * b + 1)) with ⟨x, y⟩ | ⟨x, y, z, u⟩
  · have e1 : zTp G A b = -1 := x
    have e2 : zTp G (zLess A e) b = -1 := zFs_no (fun j j0 j1 => by
      have h9 : A (G (20 + 7 * b + 2 + j)) = false := y j j0 j1
      show (A _ && _) = false
      rw [h9, Bool.false_and])
    unfold zTop
    rw [e1, e2]
  · have e1 : zTop G A b = G (20 + 7 * b + 2 + zTp G A b) := by
      unfold zTop
      rw [if_neg (show ¬ zTp G A b = -1 by unfold zTp; omega)]
    have e2 : zTp G (zLess A e) b = zTp G A b := by
      refine zFs_yes x y ?_ (fun j j0 j1 => ?_)
      · rw [zLess_n A (by rw [← e1]; exact h)]
        exact z
      · have h9 : A (G (20 + 7 * b + 2 + j)) = false := u j j0 j1
        show (A _ && _) = false
        rw [h9, Bool.false_and]
    rw [e1]
    unfold zTop
    rw [e2, if_neg (show ¬ zTp G A b = -1 by unfold zTp; omega)]
def zPk (G : Int → Int) (A : Int → Bool) (e k b : Int) : Int := if b < k then zTop G (zLess A e) b else zTop G A b
/-- while ballots are moved from e's pile -/
def zTr (M M' : zM) (G : Int → Int) (A : Int → Bool) (e k x : Int) : Prop := (∀ z, z ≠ 507 → z ≠ 508 → z ≠ 509 → M' z = M z) ∧ M' 508 0 = 509 ∧ (0 ≤ M' 508 1 ∧ M' 508 1 ≤ x + 99 * k) ∧ (∀ w, 0 ≤ w → w < 8 → M' 509 w = zVp G (zPk G A e k) (zLess A e) w) ∧ ∀ b, 0 ≤ b → b < G 1 → M' 507 b = zPk G A e k b
theorem zVp_range (hG : zWF G) (P : Int → Int) (A : Int → Bool) (w : Int) : -1 ≤ zVp G P A w ∧ zVp G P A w ≤ 1980 ∧ (zVp G P A w = -1 ↔ A w = false) := by
  have hn := hG.n
  have := zU_le (f := fun b => if P b = w then G (20 + 7 * b) else 0) (n := G 1) (lo := 0) (hi := 99) hn.1 (fun b b0 b1 => by
    have := hG.wt b0 b1
    split <;> omega)
  unfold zVp
  cases h : A w with
  | true => rw [if_pos rfl]; exact ⟨by omega, by omega, fun e => by omega, fun e => by cases e⟩
  | false => rw [if_neg (by decide)]; exact ⟨by omega, by omega, fun _ => rfl, fun _ => rfl⟩
theorem zVp_step (hG : zWF G) {e k w : Int} (k0 : 0 ≤ k) (k1 : k < G 1) (hw : zLess A e w = true) : zVp G (zPk G A e (k + 1)) (zLess A e) w = zVp G (zPk G A e k) (zLess A e) w + ((if zTop G (zLess A e) k = w then G (20 + 7 * k) else 0) - (if zTop G A k = w then G (20 + 7 * k) else 0)) := by
  unfold zVp
  rw [if_pos hw, if_pos hw, zU_up (f := fun b => if zPk G A e (k + 1) b = w then G (20 + 7 * b) else 0) (g := fun b => if zPk G A e k b = w then G (20 + 7 * b) else 0) k0 k1 (fun b b0 b1 e9 => by
    have : zPk G A e (k + 1) b = zPk G A e k b := by
      unfold zPk
      by_cases h : b < k
      · rw [if_pos h, if_pos (by omega)]
      · rw [if_neg h, if_neg (by omega)]
    rw [this])]
  have e1 : zPk G A e (k + 1) k = zTop G (zLess A e) k := if_pos (by omega)
  have e2 : zPk G A e k k = zTop G A k := if_neg (by omega)
  rw [e1, e2]
theorem s_X6_transfer_l (ha : zAs a) (R : zAR M a G) (hG : zWF G) (Hp : zHp M) {e x : Int} (hx : 0 ≤ x ∧ x ≤ 50000) {bc bs : Nat} : ∀ (m : Nat) (k : Int) (M' : zM), 0 ≤ k → k ≤ G 1 → G 1 - k < m → zTr M M' G A e k x →
    z_Ex mX6_transfer zF 24 [(1, 506), (1, a), (0, e), (0, k)] [] M' bc bs (fun r S' M' => r = (9, 0) ∧ S' = zF ∧ zTr M M' G A e (G 1) x) := by
  have p0 := zAs_0 ha
  have p3 := zAs_3 ha
  have hn := hG.n
  have ra := zAs_rng ha
  intro m
  induction m with
  | zero => intro k M' h0 h1 h2; omega
  | succ m ih =>
    intro k M' h0 h1 h2 hT
    obtain ⟨t1, t2, t3, t4, t5⟩ := id hT
    have R' : zAR M' a G := R.of hG (fun z z0 z1 => t1 z (by omega) (by omega) (by omega))
    have e506 : M' 506 = M 506 := t1 506 (by decide) (by decide) (by decide)
    refine zp_il3 (q := 25) dX6_transfer_24 rfl ?_
    refine zp_al1 (q := 26) dX6_transfer_25 rfl ?_
    refine zf_getG (v := G 1) 4 (by first | assumption | exact k2 | exact k46 | exact k90) (R'.n) rfl fdX6_32 (q := 29) dX6_transfer_26 rfl rfl ?_
    refine zr_icmp_ge (q := 67) (q2 := 32) dX6_transfer_29 (by decide) rfl (fun h29 => ?_) (fun h29 => ?_)
    · refine zr_return dX6_transfer_67 rfl ?_
      have e9 : k = G 1 := by omega
      subst e9
      exact ⟨rfl, rfl, hT⟩
    · refine zp_al0 (q := 33) dX6_transfer_32 rfl ?_
      refine zf_getG (v := 507) 0 (k506) (by rw [e506]; exact Hp.1) rfl fdX6_9 (q := 36) dX6_transfer_33 rfl rfl ?_
      refine zp_il3 (q := 37) dX6_transfer_36 rfl ?_
      refine zf_iald (v := zPk G A e k k) (by first | assumption | exact k518 | exact k519 | exact k520 | exact k521 | exact k522 | exact k523 | exact k524 | exact k525 | exact k526 | exact k527 | exact k528 | exact k510 | exact k512 | exact k515 | exact k516 | exact k507 | exact k509 | exact k135 | exact k489 | exact k529 | exact k530) (t5 k (by omega) (by omega)) (q := 38) dX6_transfer_37 rfl (by omega) (by omega) ?_
      rw [show zPk G A e k k = zTop G A k from if_neg (by omega)]
      refine zp_il2 (q := 39) dX6_transfer_38 rfl ?_
      refine zr_icmp_ne (q := 61) (q2 := 42) dX6_transfer_39 (by decide) rfl (fun h39 => ?_) (fun h39 => ?_)
      · refine zp_inc3 (q := 64) dX6_transfer_61 rfl rfl rfl (fun hA => by unfold z_in at hA ⊢; omega) ?_
        refine zr_goto (q := 24) dX6_transfer_64 (by decide) ?_
        first
        | (have t39 : zTop G A k = e := Classical.byContradiction fun n => h39 n
           have hwt := hG.wt h0 (show k < G 1 by omega)
           refine ih (k + 1) _ (by omega) (by omega) (by omega) ?_
           rcases zTop_cases hG (zLess A e) h0 (show k < G 1 by omega) with ⟨y, _⟩ | ⟨y1, y2, y3⟩
           · rw [if_pos y] at eM'
             subst eM'
             refine ⟨fun z z1 z2 z3 => by rw [z_up_ne z1, z_up_ne z2]; exact t1 z z1 z2 z3, by rw [z_up_ne (by decide), z_up_sl (by decide)]; exact t2, by rw [z_up_ne (by decide), z_up_eq]; omega, fun w w0 w1 => ?_, fun b b0 b1 => ?_⟩
             · rw [z_up_ne (by decide), z_up_ne (by decide), t4 w w0 w1]
               cases hw : zLess A e w with
               | true =>
                 rw [zVp_step hG h0 (by omega) hw, if_neg (by omega), if_neg (fun c => by rw [← c, t39, zLess_e] at hw; cases hw)]
                 omega
               | false => rw [(zVp_range hG _ _ w).2.2.mpr hw, (zVp_range hG _ _ w).2.2.mpr hw]
             · by_cases eb : b = k
               · rw [eb, z_up_eq]; unfold zPk; rw [if_pos (by omega)]
               · rw [z_up_sl eb, z_up_ne (by decide), t5 b b0 b1]; unfold zPk; split <;> split <;> first | rfl | omega
           · rw [if_neg (show ¬ zTop G (zLess A e) k = -1 by omega)] at eM'
             subst eM'
             have hw8 := hG.w
             refine ⟨fun z z1 z2 z3 => by rw [z_up_ne z1, z_up_ne z3]; exact t1 z z1 z2 z3, by rw [z_up_ne (by decide), z_up_ne (by decide)]; exact t2, by rw [z_up_ne (by decide), z_up_ne (by decide)]; omega, fun w w0 w1 => ?_, fun b b0 b1 => ?_⟩
             · rw [z_up_ne (by decide)]
               by_cases ew : w = zTop G (zLess A e) k
               · subst ew
                 rw [z_up_eq, t4 _ w0 w1, zVp_step hG h0 (by omega) y3, if_pos rfl, if_neg (fun c => by rw [← c, t39, zLess_e] at y3; cases y3)]
                 omega
               · rw [z_up_sl ew, t4 w w0 w1]
                 cases hw : zLess A e w with
                 | true =>
                   rw [zVp_step hG h0 (by omega) hw, if_neg (fun c => ew c.symm), if_neg (fun c => by rw [← c, t39, zLess_e] at hw; cases hw)]
                   omega
                 | false => rw [(zVp_range hG _ _ w).2.2.mpr hw, (zVp_range hG _ _ w).2.2.mpr hw]
             · by_cases eb : b = k
               · rw [eb, z_up_eq]; unfold zPk; rw [if_pos (by omega)]
               · rw [z_up_sl eb, z_up_ne (by decide), t5 b b0 b1]; unfold zPk; split <;> split <;> first | rfl | omega)
        | (have t39 : zTop G A k ≠ e := h39
           have ek := zTop_keep hG A h0 (show k < G 1 by omega) t39
           refine ih (k + 1) M' (by omega) (by omega) (by omega) ⟨t1, t2, by omega, fun w w0 w1 => ?_, fun b b0 b1 => ?_⟩
           · rw [t4 w w0 w1]
             cases hw : zLess A e w with
             | true =>
               rw [zVp_step hG h0 (by omega) hw, ek]
               omega
             | false => rw [(zVp_range hG _ _ w).2.2.mpr hw, (zVp_range hG _ _ w).2.2.mpr hw]
           · rw [t5 b b0 b1]
             unfold zPk
             by_cases eb : b = k
             · rw [eb, if_neg (by omega), if_pos (by omega), ek]
             · split <;> split <;> first | rfl | omega)
      · refine zp_al0 (q := 43) dX6_transfer_42 rfl ?_
        refine zf_getG (v := 507) 0 (k506) (by rw [e506]; exact Hp.1) rfl fdX6_9 (q := 46) dX6_transfer_43 rfl rfl ?_
        refine zp_il3 (q := 47) dX6_transfer_46 rfl ?_
        refine zp_al0 (q := 48) dX6_transfer_47 rfl ?_
        refine zf_getG (v := 508) 1 (k506) (by rw [e506]; exact Hp.2.1) rfl fdX6_18 (q := 51) dX6_transfer_48 rfl rfl ?_
        refine zp_al1 (q := 52) dX6_transfer_51 rfl ?_
        refine zf_getG (v := a + 3) 5 (by first | assumption | exact k2 | exact k46 | exact k90) (R'.h.p3) rfl fdX6_36 (q := 55) dX6_transfer_52 rfl rfl ?_
        refine zp_il3 (q := 56) dX6_transfer_55 rfl ?_
        refine zf_aald (v := _) (by first | assumption | exact k518 | exact k519 | exact k520 | exact k521 | exact k522 | exact k523 | exact k524 | exact k525 | exact k526 | exact k527 | exact k528 | exact k510 | exact k512 | exact k515 | exact k516 | exact k507 | exact k509 | exact k135 | exact k489 | exact k529 | exact k530) (rfl) (by decide) (q := 57) dX6_transfer_56 rfl (by omega) (by omega) ?_
        refine zf_callV1 (by first | assumption | exact k508) (s_X8_add (A := zLess A e) ro508 ha R' hG t2 (fun w w0 w1 => by show M' 509 w = -1 ↔ _; rw [t4 w w0 w1]; exact (zVp_range hG _ _ w).2.2) (fun w w0 w1 => by show -1 ≤ M' 509 w ∧ M' 509 w ≤ 100000; rw [t4 w w0 w1]; have := zVp_range hG (zPk G A e k) (zLess A e) w; omega) (by omega) h0 (by omega)) mtX8_add wiX8_add weX8_add wlX6_40 (q := 60) dX6_transfer_57 rfl rfl rfl rfl rfl rfl rfl (fun r S9 M9 h8 hP => ?_) (fun k S9 M9 hP => (z_no hP.1 rfl).elim)
        obtain ⟨rfl, rfl, eM⟩ := hP
        have eM' : M9 = if zTop G (zLess A e) k = -1 then z_up M' 508 1 (M' 508 1 + G (20 + 7 * k)) else z_up M' 509 (zTop G (zLess A e) k) (M' 509 (zTop G (zLess A e) k) + G (20 + 7 * k)) := eM
        clear eM
        refine zf_iast (by first | assumption | exact k518 | exact k519 | exact k520 | exact k521 | exact k522 | exact k523 | exact k524 | exact k525 | exact k526 | exact k527 | exact k528 | exact k510 | exact k512 | exact k515 | exact k516 | exact k507 | exact k509 | exact k135 | exact k489 | exact k529 | exact k530) (q := 61) dX6_transfer_60 rfl (by omega) (by omega) ?_
        refine zp_inc3 (q := 64) dX6_transfer_61 rfl rfl rfl (fun hA => by unfold z_in at hA ⊢; omega) ?_
        refine zr_goto (q := 24) dX6_transfer_64 (by decide) ?_
        first
        | (have t39 : zTop G A k = e := Classical.byContradiction fun n => h39 n
           have hwt := hG.wt h0 (show k < G 1 by omega)
           refine ih (k + 1) _ (by omega) (by omega) (by omega) ?_
           rcases zTop_cases hG (zLess A e) h0 (show k < G 1 by omega) with ⟨y, _⟩ | ⟨y1, y2, y3⟩
           · rw [if_pos y] at eM'
             subst eM'
             refine ⟨fun z z1 z2 z3 => by rw [z_up_ne z1, z_up_ne z2]; exact t1 z z1 z2 z3, by rw [z_up_ne (by decide), z_up_sl (by decide)]; exact t2, by rw [z_up_ne (by decide), z_up_eq]; omega, fun w w0 w1 => ?_, fun b b0 b1 => ?_⟩
             · rw [z_up_ne (by decide), z_up_ne (by decide), t4 w w0 w1]
               cases hw : zLess A e w with
               | true =>
                 rw [zVp_step hG h0 (by omega) hw, if_neg (by omega), if_neg (fun c => by rw [← c, t39, zLess_e] at hw; cases hw)]
                 omega
               | false => rw [(zVp_range hG _ _ w).2.2.mpr hw, (zVp_range hG _ _ w).2.2.mpr hw]
             · by_cases eb : b = k
               · rw [eb, z_up_eq]; unfold zPk; rw [if_pos (by omega)]
               · rw [z_up_sl eb, z_up_ne (by decide), t5 b b0 b1]; unfold zPk; split <;> split <;> first | rfl | omega
           · rw [if_neg (show ¬ zTop G (zLess A e) k = -1 by omega)] at eM'
             subst eM'
             have hw8 := hG.w
             refine ⟨fun z z1 z2 z3 => by rw [z_up_ne z1, z_up_ne z3]; exact t1 z z1 z2 z3, by rw [z_up_ne (by decide), z_up_ne (by decide)]; exact t2, by rw [z_up_ne (by decide), z_up_ne (by decide)]; omega, fun w w0 w1 => ?_, fun b b0 b1 => ?_⟩
             · rw [z_up_ne (by decide)]
               by_cases ew : w = zTop G (zLess A e) k
               · subst ew
                 rw [z_up_eq, t4 _ w0 w1, zVp_step hG h0 (by omega) y3, if_pos rfl, if_neg (fun c => by rw [← c, t39, zLess_e] at y3; cases y3)]
                 omega
               · rw [z_up_sl ew, t4 w w0 w1]
                 cases hw : zLess A e w with
                 | true =>
                   rw [zVp_step hG h0 (by omega) hw, if_neg (fun c => ew c.symm), if_neg (fun c => by rw [← c, t39, zLess_e] at hw; cases hw)]
                   omega
                 | false => rw [(zVp_range hG _ _ w).2.2.mpr hw, (zVp_range hG _ _ w).2.2.mpr hw]
             · by_cases eb : b = k
               · rw [eb, z_up_eq]; unfold zPk; rw [if_pos (by omega)]
               · rw [z_up_sl eb, z_up_ne (by decide), t5 b b0 b1]; unfold zPk; split <;> split <;> first | rfl | omega)
        | (have t39 : zTop G A k ≠ e := h39
           have ek := zTop_keep hG A h0 (show k < G 1 by omega) t39
           refine ih (k + 1) M' (by omega) (by omega) (by omega) ⟨t1, t2, by omega, fun w w0 w1 => ?_, fun b b0 b1 => ?_⟩
           · rw [t4 w w0 w1]
             cases hw : zLess A e w with
             | true =>
               rw [zVp_step hG h0 (by omega) hw, ek]
               omega
             | false => rw [(zVp_range hG _ _ w).2.2.mpr hw, (zVp_range hG _ _ w).2.2.mpr hw]
           · rw [t5 b b0 b1]
             unfold zPk
             by_cases eb : b = k
             · rw [eb, if_neg (by omega), if_pos (by omega), ek]
             · split <;> split <;> first | rfl | omega)
/-- between two rounds of the piles -/
def zPs (M M' : zM) (G : Int → Int) (A : Int → Bool) (x : Int) : Prop := (∀ z, z ≠ 507 → z ≠ 508 → z ≠ 509 → M' z = M z) ∧ M' 508 0 = 509 ∧ (0 ≤ M' 508 1 ∧ M' 508 1 ≤ x) ∧ (∀ w, 0 ≤ w → w < 8 → M' 509 w = zVo G A w) ∧ ∀ b, 0 ≤ b → b < G 1 → M' 507 b = zTop G A b
theorem s_X6_transfer (ha : zAs a) (R : zAR M a G) (hG : zWF G) (Hp : zHp M) {M1 : zM} {e x : Int} (hx : 0 ≤ x ∧ x ≤ 50000) (hS : zPs M M1 G A x) (e0 : 0 ≤ e) (e1 : e < 8) (he : A e = true) : z_Call mX6_transfer zF [(1, 506), (1, a), (0, e)] M1 (fun r S' M' => r = (9, 0) ∧ S' = zF ∧ zPs M M' G (zLess A e) (x + 1980)) := by
  obtain ⟨t1, t2, t3, t4, t5⟩ := id hS
  have hn := hG.n
  have e506 : M1 506 = M 506 := t1 506 (by decide) (by decide) (by decide)
  have h2 : z_Call mX6_transfer zF [(1, 506), (1, a), (0, e)] M1 (fun r S' M' => r = (9, 0) ∧ S' = zF ∧ zTr M M' G A e (G 1) x) := by
    refine z_enter (k := 1) rfl rfl rfl ?_
    refine zp_al0 (q := 1) dX6_transfer_0 rfl ?_
    refine zf_getG (v := 508) 1 (k506) (by rw [e506]; exact Hp.2.1) rfl fdX6_18 (q := 4) dX6_transfer_1 rfl rfl ?_
    refine zp_il2 (q := 5) dX6_transfer_4 rfl ?_
    refine zf_callV1 (by first | assumption | exact k508) (s_X8_continues ro508 t2) mtX8_continues wiX8_continues weX8_continues wlX6_61 (q := 8) dX6_transfer_5 rfl rfl rfl rfl rfl rfl rfl (fun r S9 M9 h8 hP => ?_) (fun k S9 M9 hP => (z_no hP.1 rfl).elim)
    obtain ⟨rfl, rfl, h9⟩ := hP
    subst M9
    rw [if_pos (show 0 ≤ e ∧ e < 8 ∧ M1 (508 + 1) e ≠ -1 from ⟨e0, e1, fun c => by have c2 : M1 509 e = -1 := c; rw [t4 e e0 e1] at c2; rw [(zVo_ne hG A e).mp c2] at he; cases he⟩)]
    refine zr_if_ne (q := 12) (q2 := 11) dX6_transfer_8 (by decide) rfl (fun hb8 => ?_) (fun hb8 => ?_)
    · refine zp_al0 (q := 13) dX6_transfer_12 rfl ?_
      refine zf_getG (v := 508) 1 (k506) (by rw [e506]; exact Hp.2.1) rfl fdX6_18 (q := 16) dX6_transfer_13 rfl rfl ?_
      refine zf_getG (v := 509) 0 (by first | assumption | exact k508) (t2) rfl fdX6_65 (q := 19) dX6_transfer_16 rfl rfl ?_
      refine zp_il2 (q := 20) dX6_transfer_19 rfl ?_
      refine zr_iconst (q := 21) dX6_transfer_20 rfl (z_in_of rfl) ?_
      refine zf_iast (by first | assumption | exact k518 | exact k519 | exact k520 | exact k521 | exact k522 | exact k523 | exact k524 | exact k525 | exact k526 | exact k527 | exact k528 | exact k510 | exact k512 | exact k515 | exact k516 | exact k507 | exact k509 | exact k135 | exact k489 | exact k529 | exact k530) (q := 22) dX6_transfer_21 rfl (by omega) (by omega) ?_
      refine zr_iconst (q := 23) dX6_transfer_22 rfl (z_in_of rfl) ?_
      refine zp_is3 (q := 24) dX6_transfer_23 rfl rfl rfl ?_
      refine s_X6_transfer_l ha R hG Hp hx 21 0 _ (by omega) (by omega) (by omega) ⟨fun z z1 z2 z3 => by rw [z_up_ne z3]; exact t1 z z1 z2 z3, by rw [z_up_ne (by decide)]; exact t2, by rw [z_up_ne (by decide)]; omega, fun w w0 w1 => ?_, fun b b0 b1 => ?_⟩
      · by_cases ew : w = e
        · rw [ew, z_up_eq, (zVp_range hG _ _ e).2.2.mpr (zLess_e A e)]
        · rw [z_up_sl ew, t4 w w0 w1]
          unfold zVo zVk zVp
          rw [zLess_n A ew]
          split
          · refine zU_congr hn.1 (fun b b0 b1 => ?_)
            rw [show zPk G A e 0 b = zTop G A b from if_neg (by omega)]
          · rfl
      · rw [z_up_ne (by decide), t5 b b0 b1]
        exact (if_neg (by omega)).symm
    · exact absurd (by decide) hb8
  refine z_call_mono h2 (fun r S' M' h => ?_)
  obtain ⟨r1, r2, u1, u2, u3, u4, u5⟩ := h
  refine ⟨r1, r2, u1, u2, by omega, fun w w0 w1 => ?_, fun b b0 b1 => ?_⟩
  · rw [u4 w w0 w1]
    unfold zVo zVk zVp
    split
    · refine zU_congr hn.1 (fun b b0 b1 => ?_)
      rw [show zPk G A e (G 1) b = zTop G (zLess A e) b from if_pos b1]
    · rfl
  · rw [u5 b b0 b1]
    exact if_pos b1
/-- while the first round is counted onto piles -/
def zFp (M M' : zM) (G : Int → Int) (k : Int) : Prop := (∀ z, z ≠ 507 → z ≠ 508 → z ≠ 509 → M' z = M z) ∧ M' 508 0 = 509 ∧ M' 508 1 = zXk G (zA0 G) k ∧ (∀ w, 0 ≤ w → w < 8 → M' 509 w = zVk G (zA0 G) k w) ∧ ∀ b, 0 ≤ b → b < k → M' 507 b = zTop G (zA0 G) b
/-- behind a decision -/
def zPd (M M' : zM) (G : Int → Int) (n : Int) : Prop := zPs M M' G (zA G (n - 1)) (1980 * n) ∧ M' 508 2 = zWn (zVr G (n - 1)) ∧ M' 508 3 = zEl (zVr G (n - 1)) (zP G (n - 1)) ∧ ∀ j, 0 ≤ j → j < n - 1 → zWn (zVr G j) = -1
theorem zPs_dec (hG : zWF G) {M1 M2 : zM} {n x : Int} (hn : 1 ≤ n) (hS : zPs M M1 G (zA G (n - 1)) x) (hx : x ≤ 1980 * n) (h6 : ∀ j, 0 ≤ j → j < n - 1 → zWn (zVr G j) = -1) (y1 : ∀ z, z ≠ 508 → M2 z = M1 z) (y2 : M2 508 0 = 509) (y3 : M2 508 1 = M1 508 1) (y4 : M2 508 2 = zWn (M1 509)) (y5 : M2 508 3 = zEl (M1 509) (zP G (n - 1))) : zPd M M2 G n := by
  obtain ⟨t1, t2, t3, t4, t5⟩ := hS
  have hV : ∀ w, 0 ≤ w → w < 8 → M1 509 w = zVr G (n - 1) w := t4
  exact ⟨⟨fun z z1 z2 z3 => (y1 z z2).trans (t1 z z1 z2 z3), y2, by omega, fun w w0 w1 => by rw [y1 509 (by decide)]; exact t4 w w0 w1, fun b b0 b1 => by rw [y1 507 (by decide)]; exact t5 b b0 b1⟩, by rw [y4, zWn_congr hV], by rw [y5, zEl_congr hV], h6⟩
theorem zA_alive (hG : zWF G) (hs : 1 ≤ zSt G) {n : Int} (hn : 0 ≤ n) (h8 : n ≤ 8) (h : ∀ j, 0 ≤ j → j < n → zWn (zVr G j) = -1) : n < zSt G ∧ ∃ w, 0 ≤ w ∧ w < 8 ∧ zA G n w = true := by
  have hsp := zRn_spec hG hs
  have hst : n < zSt G := by
    apply Classical.byContradiction
    intro c
    exact hsp.2.2.2.2 (h _ (by omega) (by omega))
  exact ⟨hst, zAc_ex (by have := (zA_step hG hn h hst).1; omega)⟩
theorem s_X6_elect_l (ha : zAs a) (R : zAR M a G) (hG : zWF G) (Hp : zHp M) (hs : 1 ≤ zSt G) {bc bs : Nat} : ∀ (m : Nat) (n : Int) (M' : zM), 1 ≤ n → n ≤ 8 → 8 - n < m → zPd M M' G n →
    z_Ex mX6_elect zF 66 [(1, 506), (1, a), (0, zP G n), (0, n)] [] M' bc bs (fun r S' M' => r = (0, zW G) ∧ S' = zF ∧ (∀ z, z ≠ 507 → z ≠ 508 → z ≠ 509 → M' z = M z) ∧ M' 508 0 = 509) := by
  have p0 := zAs_0 ha
  have hsp := zRn_spec hG hs
  have hn := hG.n
  intro m
  induction m with
  | zero => intro n M' h0 h1 h2; omega
  | succ m ih =>
    intro n M' h0 h1 h2 hD
    obtain ⟨d1, d2, d3, d4⟩ := id hD
    have e506 : M' 506 = M 506 := d1.1 506 (by decide) (by decide) (by decide)
    have eA : zA G n = zLess (zA G (n - 1)) (zEl (zVr G (n - 1)) (zP G (n - 1))) := by
      have := zA_s G (i := n - 1) (by omega)
      rw [show n - 1 + 1 = n by omega] at this
      exact this
    refine zp_il3 (q := 67) dX6_elect_66 rfl ?_
    refine zr_bipush (q := 69) dX6_elect_67 rfl (z_in_of rfl) (by decide +kernel) ?_
    refine zr_icmp_ge (q := 110) (q2 := 72) dX6_elect_69 (by decide) rfl (fun h69 => ?_) (fun h69 => ?_)
    · refine zp_al0 (q := 111) dX6_elect_110 rfl ?_
      refine zf_getG (v := 508) 1 (k506) (by rw [e506]; exact Hp.2.1) rfl fdX6_18 (q := 114) dX6_elect_111 rfl rfl ?_
      refine zf_getG (v := zWn (zVr G (n - 1))) 2 (by first | assumption | exact k508) (d2) rfl fdX6_51 (q := 117) dX6_elect_114 rfl rfl ?_
      refine zr_ireturn dX6_elect_117 rfl (z_fit_i _) ?_
      have c0 : zWn (zVr G (n - 1)) ≠ -1 := by
        intro c
        have c3 : ∀ j, 0 ≤ j → j < n → zWn (zVr G j) = -1 := fun j j0 j1 => by
          by_cases e : j = n - 1
          · rw [e]; exact c
          · exact d4 j j0 (by omega)
        exact hsp.2.2.2.2 (c3 _ (by omega) (by omega))
      have en := zRn_eq hG hs h0 h1 d4 c0
      have ew : zW G = zWn (zVr G (n - 1)) := by unfold zW; rw [if_neg (by omega), en]
      exact ⟨by rw [ew], rfl, d1.1, d1.2.1⟩
    · refine zp_al0 (q := 73) dX6_elect_72 rfl ?_
      refine zf_getG (v := 508) 1 (k506) (by rw [e506]; exact Hp.2.1) rfl fdX6_18 (q := 76) dX6_elect_73 rfl rfl ?_
      refine zf_getG (v := zWn (zVr G (n - 1))) 2 (by first | assumption | exact k508) (d2) rfl fdX6_51 (q := 79) dX6_elect_76 rfl rfl ?_
      refine zr_iconst (q := 80) dX6_elect_79 rfl (z_in_of rfl) ?_
      refine zr_icmp_ne (q := 110) (q2 := 83) dX6_elect_80 (by decide) rfl (fun h80 => ?_) (fun h80 => ?_)
      · refine zp_al0 (q := 111) dX6_elect_110 rfl ?_
        refine zf_getG (v := 508) 1 (k506) (by rw [e506]; exact Hp.2.1) rfl fdX6_18 (q := 114) dX6_elect_111 rfl rfl ?_
        refine zf_getG (v := zWn (zVr G (n - 1))) 2 (by first | assumption | exact k508) (d2) rfl fdX6_51 (q := 117) dX6_elect_114 rfl rfl ?_
        refine zr_ireturn dX6_elect_117 rfl (z_fit_i _) ?_
        have c0 : zWn (zVr G (n - 1)) ≠ -1 := by
          intro c
          have c3 : ∀ j, 0 ≤ j → j < n → zWn (zVr G j) = -1 := fun j j0 j1 => by
            by_cases e : j = n - 1
            · rw [e]; exact c
            · exact d4 j j0 (by omega)
          exact hsp.2.2.2.2 (c3 _ (by omega) (by omega))
        have en := zRn_eq hG hs h0 h1 d4 c0
        have ew : zW G = zWn (zVr G (n - 1)) := by unfold zW; rw [if_neg (by omega), en]
        exact ⟨by rw [ew], rfl, d1.1, d1.2.1⟩
      · have h6 : ∀ j, 0 ≤ j → j < n → zWn (zVr G j) = -1 := fun j j0 j1 => by
          by_cases e : j = n - 1
          · rw [e]; omega
          · exact d4 j j0 (by omega)
        obtain ⟨w, w0, w1, w2⟩ := (zA_alive hG hs (n := n - 1) (by omega) (by omega) (fun j j0 j1 => h6 j j0 (by omega))).2
        have hV : ∀ v, zVr G (n - 1) v = -1 ↔ zA G (n - 1) v = false := fun v => zVo_ne hG _ v
        have he := zEl_ex (V := zVr G (n - 1)) (s := zP G (n - 1)) w0 w1 (fun e => by rw [(hV w).mp e] at w2; cases w2) (h6 (n - 1) (by omega) (by omega)) (zP_range hG (by omega)).1
        have hA : zA G (n - 1) (zEl (zVr G (n - 1)) (zP G (n - 1))) = true := by
          cases hA : zA G (n - 1) (zEl (zVr G (n - 1)) (zP G (n - 1))) with
          | true => rfl
          | false => exact absurd ((hV _).mpr hA) he.2.2
        obtain ⟨v, v0, v1, v2⟩ := (zA_alive hG hs (n := n) (by omega) h1 h6).2
        refine zp_al0 (q := 84) dX6_elect_83 rfl ?_
        refine zp_al1 (q := 85) dX6_elect_84 rfl ?_
        refine zp_al0 (q := 86) dX6_elect_85 rfl ?_
        refine zf_getG (v := 508) 1 (k506) (by rw [e506]; exact Hp.2.1) rfl fdX6_18 (q := 89) dX6_elect_86 rfl rfl ?_
        refine zf_getG (v := zEl (zVr G (n - 1)) (zP G (n - 1))) 3 (by first | assumption | exact k508) (d3) rfl fdX6_54 (q := 92) dX6_elect_89 rfl rfl ?_
        refine zf_callV2 (k506) (s_X6_transfer ha R hG Hp (by omega) d1 he.1 he.2.1 hA) mtX6_transfer wiX6_transfer weX6_transfer wlX6_57 (q := 95) dX6_elect_92 rfl rfl rfl rfl rfl rfl rfl (fun r S9 M9 h8 hP => ?_) (fun k S9 M9 hP => (z_no hP.1 rfl).elim)
        obtain ⟨rfl, rfl, hS⟩ := hP
        rw [← eA] at hS
        have e506 : M9 506 = M 506 := hS.1 506 (by decide) (by decide) (by decide)
        have ex : ∃ M1, M1 = M9 := ⟨M9, rfl⟩
        obtain ⟨M1, e1⟩ := ex
        rw [← e1] at hS e506 ⊢
        clear e1 M9
        refine zp_al0 (q := 96) dX6_elect_95 rfl ?_
        refine zf_getG (v := 508) 1 (k506) (by rw [e506]; exact Hp.2.1) rfl fdX6_18 (q := 99) dX6_elect_96 rfl rfl ?_
        refine zp_il2 (q := 100) dX6_elect_99 rfl ?_
        refine zf_callV1 (by first | assumption | exact k508) (s_X8_decide ro508 hS.2.1 (fun w w0 w1 => by show -1 ≤ M1 509 w ∧ M1 509 w ≤ 1980; rw [hS.2.2.2.1 w w0 w1]; exact zVo_range hG _ w) (zP_range hG (by omega)) ⟨v, v0, v1, fun e => by have c2 : M1 509 v = -1 := e; rw [hS.2.2.2.1 v v0 v1] at c2; rw [(zVo_ne hG _ v).mp c2] at v2; cases v2⟩) mtX8_decide wiX8_decide weX8_decide wlX6_47 (q := 103) dX6_elect_100 rfl rfl rfl rfl rfl rfl rfl (fun r S9 M9 h8 hP => ?_) (fun k S9 M9 hP => (z_no hP.1 rfl).elim)
        obtain ⟨rfl, rfl, y1, y2, y3, y4, y5, y6⟩ := hP
        refine zp_is2 (q := 104) dX6_elect_103 rfl rfl rfl ?_
        refine zp_inc3 (q := 107) dX6_elect_104 rfl rfl rfl (fun hA => by unfold z_in at hA ⊢; omega) ?_
        refine zr_goto (q := 66) dX6_elect_107 (by decide) ?_
        have hV2 : ∀ w, 0 ≤ w → w < 8 → M1 (508 + 1) w = zVr G n w := hS.2.2.2.1
        rw [zSn_congr hV2, ← zP_s G (by omega)]
        refine ih (n + 1) M9 (by omega) (by omega) (by omega) (zPs_dec hG (by omega) (by rw [show n + 1 - 1 = n by omega]; exact hS) (by omega) (fun j j0 j1 => h6 j j0 (by omega)) y1 y2 y3 y4 (by rw [show n + 1 - 1 = n by omega]; exact y5))
theorem s_X6_elect_b (ha : zAs a) (R : zAR M a G) (hG : zWF G) (Hp : zHp M) (hs : 1 ≤ zSt G) {bc bs : Nat} : ∀ (m : Nat) (k : Int) (M' : zM), 0 ≤ k → k ≤ G 1 → G 1 - k < m → zFp M M' G k →
    z_Ex mX6_elect zF 19 [(1, 506), (1, a), (0, k), (9, 0)] [] M' bc bs (fun r S' M' => r = (0, zW G) ∧ S' = zF ∧ (∀ z, z ≠ 507 → z ≠ 508 → z ≠ 509 → M' z = M z) ∧ M' 508 0 = 509) := by
  have p0 := zAs_0 ha
  have p3 := zAs_3 ha
  have hn := hG.n
  have ra := zAs_rng ha
  intro m
  induction m with
  | zero => intro k M' h0 h1 h2; omega
  | succ m ih =>
    intro k M' h0 h1 h2 hF
    obtain ⟨t1, t2, t3, t4, t5⟩ := id hF
    have R' : zAR M' a G := R.of hG (fun z z0 z1 => t1 z (by omega) (by omega) (by omega))
    have e506 : M' 506 = M 506 := t1 506 (by decide) (by decide) (by decide)
    have hxk := zXk_range hG (zA0 G) h0 h1
    refine zp_il2 (q := 20) dX6_elect_19 rfl ?_
    refine zp_al1 (q := 21) dX6_elect_20 rfl ?_
    refine zf_getG (v := G 1) 4 (by first | assumption | exact k2 | exact k46 | exact k90) (R'.n) rfl fdX6_32 (q := 24) dX6_elect_21 rfl rfl ?_
    refine zr_icmp_ge (q := 52) (q2 := 27) dX6_elect_24 (by decide) rfl (fun h24 => ?_) (fun h24 => ?_)
    · have e9 : k = G 1 := by omega
      subst e9
      obtain ⟨v, v0, v1, v2⟩ := (zA_alive hG hs (n := 0) (by omega) (by omega) (fun j j0 j1 => by omega)).2
      refine zp_al0 (q := 53) dX6_elect_52 rfl ?_
      refine zf_getG (v := 508) 1 (k506) (by rw [e506]; exact Hp.2.1) rfl fdX6_18 (q := 56) dX6_elect_53 rfl rfl ?_
      refine zp_al1 (q := 57) dX6_elect_56 rfl ?_
      refine zf_getG (v := G 2) 6 (by first | assumption | exact k2 | exact k46 | exact k90) (R'.sp) rfl fdX6_44 (q := 60) dX6_elect_57 rfl rfl ?_
      refine zf_callV1 (by first | assumption | exact k508) (s_X8_decide ro508 t2 (fun w w0 w1 => by show -1 ≤ M' 509 w ∧ M' 509 w ≤ 1980; rw [t4 w w0 w1]; exact zVo_range hG (zA0 G) w) hG.sp ⟨v, v0, v1, fun e => by have c2 : M' 509 v = -1 := e; rw [t4 v v0 v1] at c2; have c3 : zA0 G v = true := v2; rw [(zVo_ne hG (zA0 G) v).mp c2] at c3; cases c3⟩) mtX8_decide wiX8_decide weX8_decide wlX6_47 (q := 63) dX6_elect_60 rfl rfl rfl rfl rfl rfl rfl (fun r S9 M9 h8 hP => ?_) (fun k S9 M9 hP => (z_no hP.1 rfl).elim)
      obtain ⟨rfl, rfl, y1, y2, y3, y4, y5, y6⟩ := hP
      refine zp_is2 (q := 64) dX6_elect_63 rfl rfl rfl ?_
      refine zr_iconst (q := 65) dX6_elect_64 rfl (z_in_of rfl) ?_
      refine zp_is3 (q := 66) dX6_elect_65 rfl rfl rfl ?_
      have hV2 : ∀ w, 0 ≤ w → w < 8 → M' (508 + 1) w = zVr G 0 w := t4
      have eP : zSn (M' (508 + 1)) (G 2) = zP G 1 := by
        rw [zSn_congr hV2, show (1 : Int) = 0 + 1 by omega, zP_s G (by omega), zP_0]
      rw [eP]
      exact s_X6_elect_l ha R hG Hp hs 8 1 M9 (by omega) (by omega) (by omega) (zPs_dec hG (n := 1) (x := 1980) (by omega) ⟨t1, t2, by omega, t4, t5⟩ (by omega) (fun j j0 j1 => by omega) y1 y2 y3 y4 y5)
    · refine zp_al0 (q := 28) dX6_elect_27 rfl ?_
      refine zf_getG (v := 507) 0 (k506) (by rw [e506]; exact Hp.1) rfl fdX6_9 (q := 31) dX6_elect_28 rfl rfl ?_
      refine zp_il2 (q := 32) dX6_elect_31 rfl ?_
      refine zp_al0 (q := 33) dX6_elect_32 rfl ?_
      refine zf_getG (v := 508) 1 (k506) (by rw [e506]; exact Hp.2.1) rfl fdX6_18 (q := 36) dX6_elect_33 rfl rfl ?_
      refine zp_al1 (q := 37) dX6_elect_36 rfl ?_
      refine zf_getG (v := a + 3) 5 (by first | assumption | exact k2 | exact k46 | exact k90) (R'.h.p3) rfl fdX6_36 (q := 40) dX6_elect_37 rfl rfl ?_
      refine zp_il2 (q := 41) dX6_elect_40 rfl ?_
      refine zf_aald (v := _) (by first | assumption | exact k518 | exact k519 | exact k520 | exact k521 | exact k522 | exact k523 | exact k524 | exact k525 | exact k526 | exact k527 | exact k528 | exact k510 | exact k512 | exact k515 | exact k516 | exact k507 | exact k509 | exact k135 | exact k489 | exact k529 | exact k530) (rfl) (by decide) (q := 42) dX6_elect_41 rfl (by omega) (by omega) ?_
      refine zf_callV1 (by first | assumption | exact k508) (s_X8_add (A := zA0 G) ro508 ha R' hG t2 (fun w w0 w1 => by show M' 509 w = -1 ↔ _; rw [t4 w w0 w1]; exact zVk_ne hG _ h0 h1 w) (fun w w0 w1 => by show -1 ≤ M' 509 w ∧ M' 509 w ≤ 100000; rw [t4 w w0 w1]; have := zVk_range hG (zA0 G) h0 h1 w; omega) (by omega) h0 (by omega)) mtX8_add wiX8_add weX8_add wlX6_40 (q := 45) dX6_elect_42 rfl rfl rfl rfl rfl rfl rfl (fun r S9 M9 h8 hP => ?_) (fun k S9 M9 hP => (z_no hP.1 rfl).elim)
      obtain ⟨rfl, rfl, eM⟩ := hP
      refine zf_iast (by first | assumption | exact k518 | exact k519 | exact k520 | exact k521 | exact k522 | exact k523 | exact k524 | exact k525 | exact k526 | exact k527 | exact k528 | exact k510 | exact k512 | exact k515 | exact k516 | exact k507 | exact k509 | exact k135 | exact k489 | exact k529 | exact k530) (q := 46) dX6_elect_45 rfl (by omega) (by omega) ?_
      refine zp_inc2 (q := 49) dX6_elect_46 rfl rfl rfl (fun hA => by unfold z_in at hA ⊢; omega) ?_
      refine zr_goto (q := 19) dX6_elect_49 (by decide) ?_
      have hJ := zJ_add (M := M') (r := 508) hG ⟨fun _ _ _ => rfl, t2, t3, t4⟩ h0 (by omega) eM
      refine ih (k + 1) _ (by omega) (by omega) (by omega) ⟨fun z z1 z2 z3 => by rw [z_up_ne z1, hJ.1 z z2 z3]; exact t1 z z1 z2 z3, by rw [z_up_ne (by decide)]; exact hJ.2.1, by rw [z_up_ne (by decide)]; exact hJ.2.2.1, fun w w0 w1 => by rw [z_up_ne (by decide)]; exact hJ.2.2.2 w w0 w1, fun b b0 b1 => ?_⟩
      by_cases eb : b = k
      · rw [eb, z_up_eq]
      · rw [z_up_sl eb, hJ.1 507 (by decide) (by decide)]
        exact t5 b b0 (by omega)
theorem s_X6_elect (ha : zAs a) (R : zAR M a G) (hG : zWF G) (Hp : zHp M) : z_Call mX6_elect zF [(1, 506), (1, a)] M (fun r S' M' => r = (0, zW G) ∧ S' = zF ∧ (∀ z, z ≠ 507 → z ≠ 508 → z ≠ 509 → M' z = M z) ∧ M' 508 0 = 509) := by
  have p0 := zAs_0 ha
  have hst := zSt_range hG
  have hn := hG.n
  refine z_enter (k := 2) rfl rfl rfl ?_
  refine zp_al1 (q := 1) dX6_elect_0 rfl ?_
  refine zf_callV0 (by first | assumption | exact k2 | exact k46 | exact k90) (s_X1_standingWinds ha R hG) mtX1_standingWinds wiX1_standingWinds weX1_standingWinds wlX6_22 (q := 4) dX6_elect_1 rfl rfl rfl rfl rfl rfl rfl (fun r S9 M9 h8 hP => ?_) (fun k S9 M9 hP => (z_no hP.1 rfl).elim)
  obtain ⟨rfl, rfl, h9⟩ := hP
  subst M9
  refine zr_if_ne (q := 9) (q2 := 7) dX6_elect_4 (by decide) rfl (fun h4 => ?_) (fun h4 => ?_)
  · refine zp_al0 (q := 10) dX6_elect_9 rfl ?_
    refine zf_getG (v := 508) 1 (k506) (Hp.2.1) rfl fdX6_18 (q := 13) dX6_elect_10 rfl rfl ?_
    refine zp_al1 (q := 14) dX6_elect_13 rfl ?_
    refine zf_callV1 (by first | assumption | exact k508) (s_X8_openFirst ro508 ha R hG Hp.2.2) mtX8_openFirst wiX8_openFirst weX8_openFirst wlX6_28 (q := 17) dX6_elect_14 rfl rfl rfl rfl rfl rfl rfl (fun r S9 M9 h8 hP => ?_) (fun k S9 M9 hP => (z_no hP.1 rfl).elim)
    obtain ⟨rfl, rfl, h9⟩ := hP
    subst M9
    refine zr_iconst (q := 18) dX6_elect_17 rfl (z_in_of rfl) ?_
    refine zp_is2 (q := 19) dX6_elect_18 rfl rfl rfl ?_
    exact s_X6_elect_b ha R hG Hp (by omega) 21 0 _ (by omega) (by omega) (by omega) ⟨fun z z1 z2 z3 => by rw [z_up_ne z2, zRow_ne _ _ _ _ (show z ≠ 508 + 1 from z3)], by rw [z_up_sl (by decide), zRow_ne _ _ _ _ (by decide)]; exact Hp.2.2, z_up_eq, fun w w0 w1 => by rw [z_up_ne (by decide)]; exact zRow_at _ _ _ w0 w1, fun b b0 b1 => by omega⟩
  · refine zr_iconst (q := 8) dX6_elect_7 rfl (z_in_of rfl) ?_
    refine zr_ireturn dX6_elect_8 rfl (z_fit_i _) ?_
    have e : zSt G = 0 := Classical.byContradiction fun n => h4 n
    exact ⟨by rw [show zW G = -1 from if_pos e], rfl, fun _ _ _ _ => rfl, Hp.2.2⟩
end ZPI
