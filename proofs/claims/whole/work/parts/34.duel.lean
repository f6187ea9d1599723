/-! dep: 30 31 32 33 -/
/-! ===== duels, and the order of the scores ===== -/
theorem zU_lt {f g : Int → Int} {n i : Int} (h : ∀ k, 0 ≤ k → k < n → f k ≤ g k) (h0 : 0 ≤ i) (h1 : i < n) (h2 : f i < g i) : zU f n < zU g n := by
  have a := zU_up (f := fun k => if k = i then f i else g k) (g := g) h0 h1 (fun k _ _ e => by rw [if_neg e])
  have b := zU_mono (f := f) (g := fun k => if k = i then f i else g k) (n := n) (by omega) (fun k h3 h4 => by
    by_cases e : k = i
    · rw [if_pos e, e]; omega
    · rw [if_neg e]; exact h k h3 h4)
  rw [if_pos rfl] at a
  omega
/-- one that beats all but one of the standing winds beats each other one -/
theorem zCond {G : Int → Int} {w o : Int} (h0 : 0 ≤ w) (h1 : w < G 0) (h2 : G (4 + w) = 0) (h3 : zBt G w = zSt G - 1) (h4 : 0 ≤ o) (h5 : o < G 0) (h6 : o ≠ w) (h7 : G (4 + o) = 0) : zPrf G o w < zPrf G w o := by
  apply Classical.byContradiction
  intro h8
  have a := zU_up (f := fun k => if G (4 + k) = 0 ∧ k ≠ w then 1 else 0) (g := fun k => if G (4 + k) = 0 then 1 else 0) h0 h1 (fun k _ _ e => by
    by_cases e2 : G (4 + k) = 0
    · rw [if_pos ⟨e2, e⟩, if_pos e2]
    · rw [if_neg (fun c => e2 c.1), if_neg e2])
  have b := zU_lt (f := fun o => if G (4 + o) = 0 ∧ zPrf G o w < zPrf G w o then 1 else 0) (g := fun k => if G (4 + k) = 0 ∧ k ≠ w then 1 else 0) (n := G 0) (i := o) (fun k _ _ => by
    by_cases e : k = w
    · rw [e, if_neg (by omega)]; split <;> omega
    · by_cases e2 : G (4 + k) = 0
      · rw [if_pos (c := G (4 + k) = 0 ∧ k ≠ w) ⟨e2, e⟩]; split <;> omega
      · rw [if_neg (fun c => e2 c.1), if_neg (fun c => e2 c.1)]; omega) h4 h5 (by rw [if_neg (fun c => h8 c.2), if_pos ⟨h7, h6⟩]; omega)
  rw [if_neg (fun c => c.2 rfl), if_pos h2] at a
  unfold zBt at h3
  unfold zSt at h3
  omega
section ZD
variable {M : zM} {a : Int} {G : Int → Int}
theorem s_X1_championAfterDuels_l (ha : zAs a) (R : zAR M a G) (hG : zWF G) {bc bs : Nat} : ∀ (m : Nat) (k c : Int), 0 ≤ k → k ≤ G 0 → G 0 - k < m → ((c = -1 ∧ ∀ j, 0 ≤ j → j < k → G (4 + j) ≠ 0) ∨ (0 ≤ c ∧ c < k ∧ G (4 + c) = 0 ∧ ∀ w, 0 ≤ w → w < k → G (4 + w) = 0 → zBt G w = zSt G - 1 → w = c)) →
    z_Ex mX1_championAfterDuels zF 4 [(1, a), (0, c), (0, k)] [] M bc bs (zpF 0 (zCh G) M) := by
  have o0 := zAs_0 ha
  have o1 := zAs_1 ha
  have hw := hG.w
  have hs := zSt_range hG
  intro m
  induction m with
  | zero => intro k c h0 h1 h2; omega
  | succ m ih =>
    intro k c h0 h1 h2 hx
    refine zp_il2 (q := 5) dX1_championAfterDuels_4 rfl ?_
    refine zp_al0 (q := 6) dX1_championAfterDuels_5 rfl ?_
    refine zf_getG (v := G 0) 0 (by first | assumption | exact k2 | exact k46 | exact k90) (R.w) rfl fdX1_9 (q := 9) dX1_championAfterDuels_6 rfl rfl ?_
    refine zr_icmp_ge (q := 43) (q2 := 12) dX1_championAfterDuels_9 (by decide) rfl (fun h9 => ?_) (fun h9 => ?_)
    · refine zp_il1 (q := 44) dX1_championAfterDuels_43 rfl ?_
      refine zr_iconst (q := 45) dX1_championAfterDuels_44 rfl (z_in_of rfl) ?_
      refine zr_icmp_eq (q := 62) (q2 := 48) dX1_championAfterDuels_45 (by decide) rfl (fun h45 => ?_) (fun h45 => ?_)
      · refine zr_iconst (q := 63) dX1_championAfterDuels_62 rfl (z_in_of rfl) ?_
        refine zr_ireturn dX1_championAfterDuels_63 rfl (z_fit_i _) ?_
        refine ⟨?_, rfl, rfl⟩
        rcases hx with ⟨hc, hx⟩ | ⟨a1, a2, a3, hx⟩
        · unfold zCh
          rw [zFs_no (fun j b1 b2 => decide_eq_false (fun e => hx j b1 (by omega) e.1))]
        · unfold zCh
          rw [zFs_no (fun j b1 b2 => decide_eq_false (fun e => by
            have e5 := hx j b1 (by omega) e.1 e.2
            subst e5
            omega))]
      · refine zp_al0 (q := 49) dX1_championAfterDuels_48 rfl ?_
        refine zp_il1 (q := 50) dX1_championAfterDuels_49 rfl ?_
        refine zf_callV1 (by first | assumption | exact k2 | exact k46 | exact k90) (s_X1_standingWindsBeatenBy ha R hG) mtX1_standingWindsBeatenBy wiX1_standingWindsBeatenBy weX1_standingWindsBeatenBy wlX1_118 (q := 53) dX1_championAfterDuels_50 rfl rfl rfl rfl rfl rfl rfl (fun r S9 M9 h8 hP => ?_) (fun k S9 M9 hP => (z_no hP.1 rfl).elim)
        obtain ⟨rfl, rfl, h9⟩ := hP
        subst M9
        refine zp_al0 (q := 54) dX1_championAfterDuels_53 rfl ?_
        refine zf_callV0 (by first | assumption | exact k2 | exact k46 | exact k90) (s_X1_standingWinds ha R hG) mtX1_standingWinds wiX1_standingWinds weX1_standingWinds wlX1_114 (q := 57) dX1_championAfterDuels_54 rfl rfl rfl rfl rfl rfl rfl (fun r S9 M9 h8 hP => ?_) (fun k S9 M9 hP => (z_no hP.1 rfl).elim)
        obtain ⟨rfl, rfl, h9⟩ := hP
        subst M9
        refine zr_iconst (q := 58) dX1_championAfterDuels_57 rfl (z_in_of rfl) ?_
        refine zr_isub (q := 59) dX1_championAfterDuels_58 rfl (fun hA hB => by unfold z_in at hA hB ⊢; omega) ?_
        refine zr_icmp_eq (q := 64) (q2 := 62) dX1_championAfterDuels_59 (by decide) rfl (fun h59 => ?_) (fun h59 => ?_)
        · refine zp_il1 (q := 65) dX1_championAfterDuels_64 rfl ?_
          refine zr_ireturn dX1_championAfterDuels_65 rfl (z_fit_i _) ?_
          refine ⟨?_, rfl, rfl⟩
          rcases hx with ⟨hc, hx⟩ | ⟨a1, a2, a3, hx⟩
          · exact absurd hc h45
          · unfold zCh
            rw [zFs_yes a1 (by omega) (decide_eq_true ⟨a3, by omega⟩) (fun j b1 b2 => decide_eq_false (fun e => by
              have e5 := hx j b1 (by omega) e.1 e.2
              omega))]
        · refine zr_iconst (q := 63) dX1_championAfterDuels_62 rfl (z_in_of rfl) ?_
          refine zr_ireturn dX1_championAfterDuels_63 rfl (z_fit_i _) ?_
          refine ⟨?_, rfl, rfl⟩
          rcases hx with ⟨hc, hx⟩ | ⟨a1, a2, a3, hx⟩
          · unfold zCh
            rw [zFs_no (fun j b1 b2 => decide_eq_false (fun e => hx j b1 (by omega) e.1))]
          · unfold zCh
            rw [zFs_no (fun j b1 b2 => decide_eq_false (fun e => by
              have e5 := hx j b1 (by omega) e.1 e.2
              subst e5
              omega))]
    · refine zp_al0 (q := 13) dX1_championAfterDuels_12 rfl ?_
      refine zf_getG (v := a + 1) 1 (by first | assumption | exact k2 | exact k46 | exact k90) (R.h.p1) rfl fdX1_15 (q := 16) dX1_championAfterDuels_13 rfl rfl ?_
      refine zp_il2 (q := 17) dX1_championAfterDuels_16 rfl ?_
      refine zf_zald (v := if G (4 + k) = 0 then 1 else 0) (by first | assumption | exact k518 | exact k519 | exact k520 | exact k521 | exact k522 | exact k523 | exact k524 | exact k525 | exact k526 | exact k527 | exact k528 | exact k510 | exact k512 | exact k515 | exact k516 | exact k507 | exact k509 | exact k135 | exact k489 | exact k529 | exact k530) (R.st (by omega) (by omega)) (q := 18) dX1_championAfterDuels_17 rfl (by omega) (by omega) ?_
      refine zr_if_eq (q := 37) (q2 := 21) dX1_championAfterDuels_18 (by decide) rfl (fun h18 => ?_) (fun h18 => ?_)
      · refine zp_inc2 (q := 40) dX1_championAfterDuels_37 rfl rfl rfl (fun hA => by unfold z_in at hA ⊢; omega) ?_
        refine zr_goto (q := 4) dX1_championAfterDuels_40 (by decide) ?_
        refine ih (k + 1) _ (by omega) (by omega) (by omega) ?_
        first
        | (have e : G (4 + k) ≠ 0 := fun e => absurd ((if_pos e).symm.trans h18) (by decide)
           rcases hx with ⟨hc, hx⟩ | ⟨a1, a2, a3, hx⟩
           · exact Or.inl ⟨hc, fun j b1 b2 => by
               by_cases e2 : j = k
               · rw [e2]; exact e
               · exact hx j b1 (by omega)⟩
           · exact Or.inr ⟨a1, by omega, a3, fun w b1 b2 b3 b4 => by
               by_cases e2 : w = k
               · rw [e2] at b3; exact absurd b3 e
               · exact hx w b1 (by omega) b3 b4⟩)
        | (have e : G (4 + k) = 0 := Classical.byContradiction fun e => h18 (if_neg e)
           rcases hx with ⟨hc, hx⟩ | ⟨a1, a2, a3, hx⟩
           · exact Or.inr ⟨h0, by omega, e, fun w b1 b2 b3 b4 => by
               by_cases e2 : w = k
               · exact e2
               · exact absurd b3 (hx w b1 (by omega))⟩
           · exact absurd h23 (by omega))
        | (have e : G (4 + k) = 0 := Classical.byContradiction fun e => h18 (if_neg e)
           have e2 : zPrf G c k < zPrf G k c := Classical.byContradiction fun e2 => h32 (if_neg e2)
           rcases hx with ⟨hc, hx⟩ | ⟨a1, a2, a3, hx⟩
           · exact absurd hc h23
           · exact Or.inr ⟨h0, by omega, e, fun w b1 b2 b3 b4 => by
               by_cases e3 : w = k
               · exact e3
               · have e4 := hx w b1 (by omega) b3 b4
                 subst e4
                 have e5 := zCond b1 (by omega) b3 b4 h0 (by omega) (by omega) e
                 omega⟩)
        | (have e : G (4 + k) = 0 := Classical.byContradiction fun e => h18 (if_neg e)
           have e2 : ¬ zPrf G c k < zPrf G k c := fun e2 => absurd ((if_pos e2).symm.trans h32) (by decide)
           rcases hx with ⟨hc, hx⟩ | ⟨a1, a2, a3, hx⟩
           · exact absurd hc h23
           · exact Or.inr ⟨a1, by omega, a3, fun w b1 b2 b3 b4 => by
               by_cases e3 : w = k
               · subst e3
                 exact absurd (zCond b1 (by omega) b3 b4 a1 (by omega) (by omega) a3) e2
               · exact hx w b1 (by omega) b3 b4⟩)
      · refine zp_il1 (q := 22) dX1_championAfterDuels_21 rfl ?_
        refine zr_iconst (q := 23) dX1_championAfterDuels_22 rfl (z_in_of rfl) ?_
        refine zr_icmp_eq (q := 35) (q2 := 26) dX1_championAfterDuels_23 (by decide) rfl (fun h23 => ?_) (fun h23 => ?_)
        · refine zp_il2 (q := 36) dX1_championAfterDuels_35 rfl ?_
          refine zp_is1 (q := 37) dX1_championAfterDuels_36 rfl rfl rfl ?_
          refine zp_inc2 (q := 40) dX1_championAfterDuels_37 rfl rfl rfl (fun hA => by unfold z_in at hA ⊢; omega) ?_
          refine zr_goto (q := 4) dX1_championAfterDuels_40 (by decide) ?_
          refine ih (k + 1) _ (by omega) (by omega) (by omega) ?_
          first
          | (have e : G (4 + k) ≠ 0 := fun e => absurd ((if_pos e).symm.trans h18) (by decide)
             rcases hx with ⟨hc, hx⟩ | ⟨a1, a2, a3, hx⟩
             · exact Or.inl ⟨hc, fun j b1 b2 => by
                 by_cases e2 : j = k
                 · rw [e2]; exact e
                 · exact hx j b1 (by omega)⟩
             · exact Or.inr ⟨a1, by omega, a3, fun w b1 b2 b3 b4 => by
                 by_cases e2 : w = k
                 · rw [e2] at b3; exact absurd b3 e
                 · exact hx w b1 (by omega) b3 b4⟩)
          | (have e : G (4 + k) = 0 := Classical.byContradiction fun e => h18 (if_neg e)
             rcases hx with ⟨hc, hx⟩ | ⟨a1, a2, a3, hx⟩
             · exact Or.inr ⟨h0, by omega, e, fun w b1 b2 b3 b4 => by
                 by_cases e2 : w = k
                 · exact e2
                 · exact absurd b3 (hx w b1 (by omega))⟩
             · exact absurd h23 (by omega))
          | (have e : G (4 + k) = 0 := Classical.byContradiction fun e => h18 (if_neg e)
             have e2 : zPrf G c k < zPrf G k c := Classical.byContradiction fun e2 => h32 (if_neg e2)
             rcases hx with ⟨hc, hx⟩ | ⟨a1, a2, a3, hx⟩
             · exact absurd hc h23
             · exact Or.inr ⟨h0, by omega, e, fun w b1 b2 b3 b4 => by
                 by_cases e3 : w = k
                 · exact e3
                 · have e4 := hx w b1 (by omega) b3 b4
                   subst e4
                   have e5 := zCond b1 (by omega) b3 b4 h0 (by omega) (by omega) e
                   omega⟩)
          | (have e : G (4 + k) = 0 := Classical.byContradiction fun e => h18 (if_neg e)
             have e2 : ¬ zPrf G c k < zPrf G k c := fun e2 => absurd ((if_pos e2).symm.trans h32) (by decide)
             rcases hx with ⟨hc, hx⟩ | ⟨a1, a2, a3, hx⟩
             · exact absurd hc h23
             · exact Or.inr ⟨a1, by omega, a3, fun w b1 b2 b3 b4 => by
                 by_cases e3 : w = k
                 · subst e3
                   exact absurd (zCond b1 (by omega) b3 b4 a1 (by omega) (by omega) a3) e2
                 · exact hx w b1 (by omega) b3 b4⟩)
        · refine zp_al0 (q := 27) dX1_championAfterDuels_26 rfl ?_
          refine zp_il2 (q := 28) dX1_championAfterDuels_27 rfl ?_
          refine zp_il1 (q := 29) dX1_championAfterDuels_28 rfl ?_
          refine zf_callV2 (by first | assumption | exact k2 | exact k46 | exact k90) (s_X1_isStronger ha R hG) mtX1_isStronger wiX1_isStronger weX1_isStronger wlX1_111 (q := 32) dX1_championAfterDuels_29 rfl rfl rfl rfl rfl rfl rfl (fun r S9 M9 h8 hP => ?_) (fun k S9 M9 hP => (z_no hP.1 rfl).elim)
          obtain ⟨rfl, rfl, h9⟩ := hP
          subst M9
          refine zr_if_eq (q := 37) (q2 := 35) dX1_championAfterDuels_32 (by decide) rfl (fun h32 => ?_) (fun h32 => ?_)
          · refine zp_inc2 (q := 40) dX1_championAfterDuels_37 rfl rfl rfl (fun hA => by unfold z_in at hA ⊢; omega) ?_
            refine zr_goto (q := 4) dX1_championAfterDuels_40 (by decide) ?_
            refine ih (k + 1) _ (by omega) (by omega) (by omega) ?_
            first
            | (have e : G (4 + k) ≠ 0 := fun e => absurd ((if_pos e).symm.trans h18) (by decide)
               rcases hx with ⟨hc, hx⟩ | ⟨a1, a2, a3, hx⟩
               · exact Or.inl ⟨hc, fun j b1 b2 => by
                   by_cases e2 : j = k
                   · rw [e2]; exact e
                   · exact hx j b1 (by omega)⟩
               · exact Or.inr ⟨a1, by omega, a3, fun w b1 b2 b3 b4 => by
                   by_cases e2 : w = k
                   · rw [e2] at b3; exact absurd b3 e
                   · exact hx w b1 (by omega) b3 b4⟩)
            | (have e : G (4 + k) = 0 := Classical.byContradiction fun e => h18 (if_neg e)
               rcases hx with ⟨hc, hx⟩ | ⟨a1, a2, a3, hx⟩
               · exact Or.inr ⟨h0, by omega, e, fun w b1 b2 b3 b4 => by
                   by_cases e2 : w = k
                   · exact e2
                   · exact absurd b3 (hx w b1 (by omega))⟩
               · exact absurd h23 (by omega))
            | (have e : G (4 + k) = 0 := Classical.byContradiction fun e => h18 (if_neg e)
               have e2 : zPrf G c k < zPrf G k c := Classical.byContradiction fun e2 => h32 (if_neg e2)
               rcases hx with ⟨hc, hx⟩ | ⟨a1, a2, a3, hx⟩
               · exact absurd hc h23
               · exact Or.inr ⟨h0, by omega, e, fun w b1 b2 b3 b4 => by
                   by_cases e3 : w = k
                   · exact e3
                   · have e4 := hx w b1 (by omega) b3 b4
                     subst e4
                     have e5 := zCond b1 (by omega) b3 b4 h0 (by omega) (by omega) e
                     omega⟩)
            | (have e : G (4 + k) = 0 := Classical.byContradiction fun e => h18 (if_neg e)
               have e2 : ¬ zPrf G c k < zPrf G k c := fun e2 => absurd ((if_pos e2).symm.trans h32) (by decide)
               rcases hx with ⟨hc, hx⟩ | ⟨a1, a2, a3, hx⟩
               · exact absurd hc h23
               · exact Or.inr ⟨a1, by omega, a3, fun w b1 b2 b3 b4 => by
                   by_cases e3 : w = k
                   · subst e3
                     exact absurd (zCond b1 (by omega) b3 b4 a1 (by omega) (by omega) a3) e2
                   · exact hx w b1 (by omega) b3 b4⟩)
          · refine zp_il2 (q := 36) dX1_championAfterDuels_35 rfl ?_
            refine zp_is1 (q := 37) dX1_championAfterDuels_36 rfl rfl rfl ?_
            refine zp_inc2 (q := 40) dX1_championAfterDuels_37 rfl rfl rfl (fun hA => by unfold z_in at hA ⊢; omega) ?_
            refine zr_goto (q := 4) dX1_championAfterDuels_40 (by decide) ?_
            refine ih (k + 1) _ (by omega) (by omega) (by omega) ?_
            first
            | (have e : G (4 + k) ≠ 0 := fun e => absurd ((if_pos e).symm.trans h18) (by decide)
               rcases hx with ⟨hc, hx⟩ | ⟨a1, a2, a3, hx⟩
               · exact Or.inl ⟨hc, fun j b1 b2 => by
                   by_cases e2 : j = k
                   · rw [e2]; exact e
                   · exact hx j b1 (by omega)⟩
               · exact Or.inr ⟨a1, by omega, a3, fun w b1 b2 b3 b4 => by
                   by_cases e2 : w = k
                   · rw [e2] at b3; exact absurd b3 e
                   · exact hx w b1 (by omega) b3 b4⟩)
            | (have e : G (4 + k) = 0 := Classical.byContradiction fun e => h18 (if_neg e)
               rcases hx with ⟨hc, hx⟩ | ⟨a1, a2, a3, hx⟩
               · exact Or.inr ⟨h0, by omega, e, fun w b1 b2 b3 b4 => by
                   by_cases e2 : w = k
                   · exact e2
                   · exact absurd b3 (hx w b1 (by omega))⟩
               · exact absurd h23 (by omega))
            | (have e : G (4 + k) = 0 := Classical.byContradiction fun e => h18 (if_neg e)
               have e2 : zPrf G c k < zPrf G k c := Classical.byContradiction fun e2 => h32 (if_neg e2)
               rcases hx with ⟨hc, hx⟩ | ⟨a1, a2, a3, hx⟩
               · exact absurd hc h23
               · exact Or.inr ⟨h0, by omega, e, fun w b1 b2 b3 b4 => by
                   by_cases e3 : w = k
                   · exact e3
                   · have e4 := hx w b1 (by omega) b3 b4
                     subst e4
                     have e5 := zCond b1 (by omega) b3 b4 h0 (by omega) (by omega) e
                     omega⟩)
            | (have e : G (4 + k) = 0 := Classical.byContradiction fun e => h18 (if_neg e)
               have e2 : ¬ zPrf G c k < zPrf G k c := fun e2 => absurd ((if_pos e2).symm.trans h32) (by decide)
               rcases hx with ⟨hc, hx⟩ | ⟨a1, a2, a3, hx⟩
               · exact absurd hc h23
               · exact Or.inr ⟨a1, by omega, a3, fun w b1 b2 b3 b4 => by
                   by_cases e3 : w = k
                   · subst e3
                     exact absurd (zCond b1 (by omega) b3 b4 a1 (by omega) (by omega) a3) e2
                   · exact hx w b1 (by omega) b3 b4⟩)
theorem s_X1_championAfterDuels (ha : zAs a) (R : zAR M a G) (hG : zWF G) : z_Call mX1_championAfterDuels zF [(1, a)] M (zpF 0 (zCh G) M) := by
  have hw := hG.w
  refine z_enter (k := 2) rfl rfl rfl ?_
  refine zr_iconst (q := 1) dX1_championAfterDuels_0 rfl (z_in_of rfl) ?_
  refine zp_is1 (q := 2) dX1_championAfterDuels_1 rfl rfl rfl ?_
  refine zr_iconst (q := 3) dX1_championAfterDuels_2 rfl (z_in_of rfl) ?_
  refine zp_is2 (q := 4) dX1_championAfterDuels_3 rfl rfl rfl ?_
  exact s_X1_championAfterDuels_l ha R hG 9 0 (-1) (by omega) (by omega) (by omega) (Or.inl ⟨rfl, fun j a1 a2 => by omega⟩)
theorem s_X11_championByDuels (Hw : zHw M) (R : zAR M 2 G) (hG : zWF G) (hc : zCh G ≠ -1) : z_Call mX11_championByDuels zF [(1, 1)] M (zpF 0 (zCh G) M) := by
  refine z_enter (k := 0) rfl rfl rfl ?_
  refine zp_al0 (q := 1) dX11_championByDuels_0 rfl ?_
  refine zf_getG (v := 2) 0 (k1) (Hw.as) rfl fdX11_10 (q := 4) dX11_championByDuels_1 rfl rfl ?_
  refine zf_callV0 (by first | assumption | exact k2 | exact k46 | exact k90) (s_X1_championAfterDuels as2 R hG) mtX1_championAfterDuels wiX1_championAfterDuels weX1_championAfterDuels wlX11_222 (q := 7) dX11_championByDuels_4 rfl rfl rfl rfl rfl rfl rfl (fun r S9 M9 h8 hP => ?_) (fun k S9 M9 hP => (z_no hP.1 rfl).elim)
  obtain ⟨rfl, rfl, h9⟩ := hP
  subst M9
  refine zp_callS1 (s_X11_found hc) mtX11_found wtX11_found wlX11_147 (q := 10) dX11_championByDuels_7 rfl rfl rfl rfl rfl (fun r S9 M9 h8 hP => ?_) (fun k S9 M9 hP => (z_no hP.1 rfl).elim)
  obtain ⟨rfl, rfl, h9⟩ := hP
  subst M9
  refine zr_ireturn dX11_championByDuels_10 rfl (z_fit_i _) ?_
  exact ⟨rfl, rfl, rfl⟩
theorem s_X11_championByDuels_x (Hw : zHw M) (R : zAR M 2 G) (hG : zWF G) (hc : zCh G = -1) : z_Call mX11_championByDuels zF [(1, 1)] M (zpF 8 4 M) := by
  refine z_enter (k := 0) rfl rfl rfl ?_
  refine zp_al0 (q := 1) dX11_championByDuels_0 rfl ?_
  refine zf_getG (v := 2) 0 (k1) (Hw.as) rfl fdX11_10 (q := 4) dX11_championByDuels_1 rfl rfl ?_
  refine zf_callV0 (by first | assumption | exact k2 | exact k46 | exact k90) (s_X1_championAfterDuels as2 R hG) mtX1_championAfterDuels wiX1_championAfterDuels weX1_championAfterDuels wlX11_222 (q := 7) dX11_championByDuels_4 rfl rfl rfl rfl rfl rfl rfl (fun r S9 M9 h8 hP => ?_) (fun k S9 M9 hP => (z_no hP.1 rfl).elim)
  obtain ⟨rfl, rfl, h9⟩ := hP
  subst M9
  refine zp_callS1 (s_X11_found_x hc) mtX11_found wtX11_found wlX11_147 (q := 10) dX11_championByDuels_7 rfl rfl rfl rfl rfl (fun r S9 M9 h8 hP => absurd (congrArg Prod.fst hP.1) h8) (fun k S9 M9 hP => ?_)
  obtain ⟨h8, rfl, h9⟩ := hP
  subst M9
  cases h8
  exact ⟨rfl, rfl, rfl⟩
/-! the order of the scores -/
def zRk (G : Int → Int) (w : Int) : Int := zU (fun o => if zSc G w < zSc G o ∨ (zSc G o = zSc G w ∧ o < w) then 1 else 0) (G 0)
def zBy (G : Int → Int) (p : Int) : Int := zFs (fun w => decide (zRk G w = p)) (G 0)
theorem zRk_lt {G : Int → Int} {v w : Int} (h0 : 0 ≤ v) (h1 : v < G 0) (h : zSc G w < zSc G v ∨ (zSc G v = zSc G w ∧ v < w)) : zRk G v < zRk G w := by
  unfold zRk
  refine zU_lt (i := v) (fun k _ _ => ?_) h0 h1 (by rw [if_neg (by omega), if_pos h]; omega)
  by_cases e : zSc G v < zSc G k ∨ (zSc G k = zSc G v ∧ k < v)
  · rw [if_pos e, if_pos (by omega)]; omega
  · rw [if_neg e]; split <;> omega
theorem zRk_inj {G : Int → Int} {v w : Int} (h0 : 0 ≤ v) (h1 : v < G 0) (h2 : 0 ≤ w) (h3 : w < G 0) (h : zRk G v = zRk G w) : v = w := by
  apply Classical.byContradiction
  intro n
  by_cases e : zSc G w < zSc G v ∨ (zSc G v = zSc G w ∧ v < w)
  · have := zRk_lt h0 h1 e
    omega
  · have := zRk_lt (v := w) (w := v) h2 h3 (by omega)
    omega
/-- a row written anew -/
def zRow (M : zM) (z : Int) (f : Int → Int) (n : Int) : zM := fun a j => if a = z ∧ 0 ≤ j ∧ j < n then f j else M a j
theorem zRow_0 (M : zM) (z : Int) (f : Int → Int) : zRow M z f 0 = M := by
  funext a j
  unfold zRow
  rw [if_neg (by omega)]
theorem zRow_s (M : zM) (z : Int) (f : Int → Int) {n : Int} (h : 0 ≤ n) : z_up (zRow M z f n) z n (f n) = zRow M z f (n + 1) := by
  funext a j
  unfold z_up zRow
  by_cases e : a = z ∧ j = n
  · rw [if_pos e, if_pos (by omega), e.2]
  · rw [if_neg e]
    by_cases e2 : a = z ∧ 0 ≤ j ∧ j < n
    · rw [if_pos e2, if_pos (by omega)]
    · rw [if_neg e2, if_neg (by omega)]
theorem zRow_ne (M : zM) (z : Int) (f : Int → Int) (n : Int) {a : Int} (h : a ≠ z) : zRow M z f n a = M a := by
  funext j
  unfold zRow
  rw [if_neg (fun c => h c.1)]
theorem zRow_at (M : zM) (z : Int) (f : Int → Int) {n j : Int} (h0 : 0 ≤ j) (h1 : j < n) : zRow M z f n z j = f j := by
  unfold zRow
  rw [if_pos ⟨rfl, h0, h1⟩]
theorem zHw.of {M M' : zM} (h : zHw M) (e : M' 1 = M 1) : zHw M' := by
  unfold zHw at h ⊢
  rw [e]
  exact h
theorem zSc_range (hG : zWF G) (w : Int) : 0 ≤ zSc G w ∧ zSc G w ≤ 594 * G 1 := by
  have a := zU_le (f := fun b => if zPl G b w = -1 then 0 else G (20 + 7 * b) * (5 - zPl G b w)) (n := G 1) (lo := 0) (hi := 594) hG.n.1 (fun k h0 h1 => by
    have := zSc_up hG (w := w) h0 h1
    split <;> omega)
  unfold zSc
  omega
theorem s_X11_placeByScore_l (Hw : zHw M) (R : zAR M 2 G) (hG : zWF G) (hsc : ∀ j, 0 ≤ j → j < G 0 → M 510 j = zSc G j) {w : Int} (hv0 : 0 ≤ w) (hv1 : w < G 0) {bc bs : Nat} : ∀ (m : Nat) (k x : Int), 0 ≤ k → k ≤ G 0 → G 0 - k < m → 0 ≤ x → x ≤ k → x = zU (fun o => if zSc G w < zSc G o ∨ (zSc G o = zSc G w ∧ o < w) then 1 else 0) k →
    z_Ex mX11_placeByScore zF 4 [(1, 1), (0, w), (0, x), (0, k)] [] M bc bs (zpF 0 (zRk G w) M) := by
  have hw := hG.w
  intro m
  induction m with
  | zero => intro k x h0 h1 h2; omega
  | succ m ih =>
    intro k x h0 h1 h2 h3 h4 hx
    refine zp_il3 (q := 5) dX11_placeByScore_4 rfl ?_
    refine zp_al0 (q := 6) dX11_placeByScore_5 rfl ?_
    refine zf_getG (v := 2) 0 (k1) (Hw.as) rfl fdX11_10 (q := 9) dX11_placeByScore_6 rfl rfl ?_
    refine zf_getG (v := G 0) 0 (by first | assumption | exact k2 | exact k46 | exact k90) (R.w) rfl fdX11_84 (q := 12) dX11_placeByScore_9 rfl rfl ?_
    refine zr_icmp_ge (q := 59) (q2 := 15) dX11_placeByScore_12 (by decide) rfl (fun h12 => ?_) (fun h12 => ?_)
    · refine zp_il2 (q := 60) dX11_placeByScore_59 rfl ?_
      refine zr_ireturn dX11_placeByScore_60 rfl (z_fit_i _) ?_
      exact ⟨by rw [hx, show k = G 0 by omega]; rfl, rfl, rfl⟩
    · refine zp_al0 (q := 16) dX11_placeByScore_15 rfl ?_
      refine zf_getG (v := 510) 7 (k1) (Hw.sc) rfl fdX11_47 (q := 19) dX11_placeByScore_16 rfl rfl ?_
      refine zp_il3 (q := 20) dX11_placeByScore_19 rfl ?_
      refine zf_iald (v := zSc G k) (by first | assumption | exact k518 | exact k519 | exact k520 | exact k521 | exact k522 | exact k523 | exact k524 | exact k525 | exact k526 | exact k527 | exact k528 | exact k510 | exact k512 | exact k515 | exact k516 | exact k507 | exact k509 | exact k135 | exact k489 | exact k529 | exact k530) (hsc k (by omega) (by omega)) (q := 21) dX11_placeByScore_20 rfl (by omega) (by omega) ?_
      refine zp_al0 (q := 22) dX11_placeByScore_21 rfl ?_
      refine zf_getG (v := 510) 7 (k1) (Hw.sc) rfl fdX11_47 (q := 25) dX11_placeByScore_22 rfl rfl ?_
      refine zp_il1 (q := 26) dX11_placeByScore_25 rfl ?_
      refine zf_iald (v := zSc G w) (by first | assumption | exact k518 | exact k519 | exact k520 | exact k521 | exact k522 | exact k523 | exact k524 | exact k525 | exact k526 | exact k527 | exact k528 | exact k510 | exact k512 | exact k515 | exact k516 | exact k507 | exact k509 | exact k135 | exact k489 | exact k529 | exact k530) (hsc w (by omega) (by omega)) (q := 27) dX11_placeByScore_26 rfl (by omega) (by omega) ?_
      refine zr_icmp_gt (q := 50) (q2 := 30) dX11_placeByScore_27 (by decide) rfl (fun h27 => ?_) (fun h27 => ?_)
      · refine zp_inc2 (q := 53) dX11_placeByScore_50 rfl rfl rfl (fun hA => by unfold z_in at hA ⊢; omega) ?_
        refine zp_inc3 (q := 56) dX11_placeByScore_53 rfl rfl rfl (fun hA => by unfold z_in at hA ⊢; omega) ?_
        refine zr_goto (q := 4) dX11_placeByScore_56 (by decide) ?_
        exact ih (k + 1) _ (by omega) (by omega) (by omega) (by omega) (by omega) (by rw [zU_s _ (by omega), ← hx]; omega)
      · refine zp_al0 (q := 31) dX11_placeByScore_30 rfl ?_
        refine zf_getG (v := 510) 7 (k1) (Hw.sc) rfl fdX11_47 (q := 34) dX11_placeByScore_31 rfl rfl ?_
        refine zp_il3 (q := 35) dX11_placeByScore_34 rfl ?_
        refine zf_iald (v := zSc G k) (by first | assumption | exact k518 | exact k519 | exact k520 | exact k521 | exact k522 | exact k523 | exact k524 | exact k525 | exact k526 | exact k527 | exact k528 | exact k510 | exact k512 | exact k515 | exact k516 | exact k507 | exact k509 | exact k135 | exact k489 | exact k529 | exact k530) (hsc k (by omega) (by omega)) (q := 36) dX11_placeByScore_35 rfl (by omega) (by omega) ?_
        refine zp_al0 (q := 37) dX11_placeByScore_36 rfl ?_
        refine zf_getG (v := 510) 7 (k1) (Hw.sc) rfl fdX11_47 (q := 40) dX11_placeByScore_37 rfl rfl ?_
        refine zp_il1 (q := 41) dX11_placeByScore_40 rfl ?_
        refine zf_iald (v := zSc G w) (by first | assumption | exact k518 | exact k519 | exact k520 | exact k521 | exact k522 | exact k523 | exact k524 | exact k525 | exact k526 | exact k527 | exact k528 | exact k510 | exact k512 | exact k515 | exact k516 | exact k507 | exact k509 | exact k135 | exact k489 | exact k529 | exact k530) (hsc w (by omega) (by omega)) (q := 42) dX11_placeByScore_41 rfl (by omega) (by omega) ?_
        refine zr_icmp_ne (q := 53) (q2 := 45) dX11_placeByScore_42 (by decide) rfl (fun h42 => ?_) (fun h42 => ?_)
        · refine zp_inc3 (q := 56) dX11_placeByScore_53 rfl rfl rfl (fun hA => by unfold z_in at hA ⊢; omega) ?_
          refine zr_goto (q := 4) dX11_placeByScore_56 (by decide) ?_
          exact ih (k + 1) _ (by omega) (by omega) (by omega) (by omega) (by omega) (by rw [zU_s _ (by omega), ← hx]; omega)
        · refine zp_il3 (q := 46) dX11_placeByScore_45 rfl ?_
          refine zp_il1 (q := 47) dX11_placeByScore_46 rfl ?_
          refine zr_icmp_ge (q := 53) (q2 := 50) dX11_placeByScore_47 (by decide) rfl (fun h47 => ?_) (fun h47 => ?_)
          · refine zp_inc3 (q := 56) dX11_placeByScore_53 rfl rfl rfl (fun hA => by unfold z_in at hA ⊢; omega) ?_
            refine zr_goto (q := 4) dX11_placeByScore_56 (by decide) ?_
            exact ih (k + 1) _ (by omega) (by omega) (by omega) (by omega) (by omega) (by rw [zU_s _ (by omega), ← hx]; omega)
          · refine zp_inc2 (q := 53) dX11_placeByScore_50 rfl rfl rfl (fun hA => by unfold z_in at hA ⊢; omega) ?_
            refine zp_inc3 (q := 56) dX11_placeByScore_53 rfl rfl rfl (fun hA => by unfold z_in at hA ⊢; omega) ?_
            refine zr_goto (q := 4) dX11_placeByScore_56 (by decide) ?_
            exact ih (k + 1) _ (by omega) (by omega) (by omega) (by omega) (by omega) (by rw [zU_s _ (by omega), ← hx]; omega)
theorem s_X11_placeByScore (Hw : zHw M) (R : zAR M 2 G) (hG : zWF G) (hsc : ∀ j, 0 ≤ j → j < G 0 → M 510 j = zSc G j) {w : Int} (hv0 : 0 ≤ w) (hv1 : w < G 0) : z_Call mX11_placeByScore zF [(1, 1), (0, w)] M (zpF 0 (zRk G w) M) := by
  have hw := hG.w
  refine z_enter (k := 2) rfl rfl rfl ?_
  refine zr_iconst (q := 1) dX11_placeByScore_0 rfl (z_in_of rfl) ?_
  refine zp_is2 (q := 2) dX11_placeByScore_1 rfl rfl rfl ?_
  refine zr_iconst (q := 3) dX11_placeByScore_2 rfl (z_in_of rfl) ?_
  refine zp_is3 (q := 4) dX11_placeByScore_3 rfl rfl rfl ?_
  exact s_X11_placeByScore_l Hw R hG hsc hv0 hv1 9 0 0 (by omega) (by omega) (by omega) (by omega) (by omega) rfl
theorem s_X11_windByScore_m (Hw : zHw M) (R : zAR M 2 G) (hG : zWF G) (hsc : ∀ j, 0 ≤ j → j < G 0 → M 510 j = zSc G j) {p : Int} {bc bs : Nat} {Q : zV → zS → zM → Prop} (kk : z_Ex mX11_windByScore zF 65 [(1, 1), (0, p), (0, zBy G p), (0, G 0)] [] M bc bs Q) : ∀ (m : Nat) (k c : Int), 0 ≤ k → k ≤ G 0 → G 0 - k < m → ((c = -1 ∧ ∀ j, 0 ≤ j → j < k → zRk G j ≠ p) ∨ (0 ≤ c ∧ c < k ∧ zRk G c = p)) →
    z_Ex mX11_windByScore zF 37 [(1, 1), (0, p), (0, c), (0, k)] [] M bc bs Q := by
  have hw := hG.w
  intro m
  induction m with
  | zero => intro k c h0 h1 h2; omega
  | succ m ih =>
    intro k c h0 h1 h2 hx
    refine zp_il3 (q := 38) dX11_windByScore_37 rfl ?_
    refine zp_al0 (q := 39) dX11_windByScore_38 rfl ?_
    refine zf_getG (v := 2) 0 (k1) (Hw.as) rfl fdX11_10 (q := 42) dX11_windByScore_39 rfl rfl ?_
    refine zf_getG (v := G 0) 0 (by first | assumption | exact k2 | exact k46 | exact k90) (R.w) rfl fdX11_84 (q := 45) dX11_windByScore_42 rfl rfl ?_
    refine zr_icmp_ge (q := 65) (q2 := 48) dX11_windByScore_45 (by decide) rfl (fun h45 => ?_) (fun h45 => ?_)
    · have e : k = G 0 := by omega
      subst e
      have e2 : c = zBy G p := by
        rcases hx with ⟨hc, hx⟩ | ⟨a1, a2, a3⟩
        · exact hc.trans (zFs_no fun j b1 b2 => decide_eq_false (hx j b1 b2)).symm
        · exact (zFs_yes a1 a2 (decide_eq_true a3) (fun j b1 b2 => decide_eq_false (fun e => by
            have := zRk_inj b1 (by omega) a1 a2 (e.trans a3.symm)
            omega))).symm
      rw [e2]
      exact kk
    · refine zp_al0 (q := 49) dX11_windByScore_48 rfl ?_
      refine zp_il3 (q := 50) dX11_windByScore_49 rfl ?_
      refine zf_callV1 (k1) (s_X11_placeByScore Hw R hG hsc h0 (by omega)) mtX11_placeByScore wiX11_placeByScore weX11_placeByScore wlX11_228 (q := 53) dX11_windByScore_50 rfl rfl rfl rfl rfl rfl rfl (fun r S9 M9 h8 hP => ?_) (fun k S9 M9 hP => (z_no hP.1 rfl).elim)
      obtain ⟨rfl, rfl, h9⟩ := hP
      subst M9
      refine zp_il1 (q := 54) dX11_windByScore_53 rfl ?_
      refine zr_icmp_ne (q := 59) (q2 := 57) dX11_windByScore_54 (by decide) rfl (fun h54 => ?_) (fun h54 => ?_)
      · refine zp_inc3 (q := 62) dX11_windByScore_59 rfl rfl rfl (fun hA => by unfold z_in at hA ⊢; omega) ?_
        refine zr_goto (q := 37) dX11_windByScore_62 (by decide) ?_
        refine ih (k + 1) _ (by omega) (by omega) (by omega) ?_
        first
        | exact Or.inr ⟨h0, by omega, by omega⟩
        | (rcases hx with ⟨hc, hx⟩ | ⟨a1, a2, a3⟩
           · exact Or.inl ⟨hc, fun j b1 b2 => by
               by_cases e2 : j = k
               · rw [e2]; omega
               · exact hx j b1 (by omega)⟩
           · exact Or.inr ⟨a1, by omega, a3⟩)
      · refine zp_il3 (q := 58) dX11_windByScore_57 rfl ?_
        refine zp_is2 (q := 59) dX11_windByScore_58 rfl rfl rfl ?_
        refine zp_inc3 (q := 62) dX11_windByScore_59 rfl rfl rfl (fun hA => by unfold z_in at hA ⊢; omega) ?_
        refine zr_goto (q := 37) dX11_windByScore_62 (by decide) ?_
        refine ih (k + 1) _ (by omega) (by omega) (by omega) ?_
        first
        | exact Or.inr ⟨h0, by omega, by omega⟩
        | (rcases hx with ⟨hc, hx⟩ | ⟨a1, a2, a3⟩
           · exact Or.inl ⟨hc, fun j b1 b2 => by
               by_cases e2 : j = k
               · rw [e2]; omega
               · exact hx j b1 (by omega)⟩
           · exact Or.inr ⟨a1, by omega, a3⟩)
theorem s_X11_windByScore_k (Hw : zHw M) (R : zAR M 2 G) (hG : zWF G) {p : Int} {bc bs : Nat} {Q : zV → zS → zM → Prop} (kk : z_Ex mX11_windByScore zF 33 [(1, 1), (0, p), (0, G 0), (9, 0)] [] (zRow M 510 (zSc G) (G 0)) bc bs Q) : ∀ (m : Nat) (k : Int), 0 ≤ k → k ≤ G 0 → G 0 - k < m →
    z_Ex mX11_windByScore zF 2 [(1, 1), (0, p), (0, k), (9, 0)] [] (zRow M 510 (zSc G) k) bc bs Q := by
  have hw := hG.w
  intro m
  induction m with
  | zero => intro k h0 h1 h2; omega
  | succ m ih =>
    intro k h0 h1 h2
    have R' : zAR (zRow M 510 (zSc G) k) 2 G := R.of hG (fun z _ _ => zRow_ne _ _ _ _ (by omega))
    have Hw' : zHw (zRow M 510 (zSc G) k) := Hw.of (zRow_ne _ _ _ _ (by decide))
    refine zp_il2 (q := 3) dX11_windByScore_2 rfl ?_
    refine zp_al0 (q := 4) dX11_windByScore_3 rfl ?_
    refine zf_getG (v := 2) 0 (k1) (Hw'.as) rfl fdX11_10 (q := 7) dX11_windByScore_4 rfl rfl ?_
    refine zf_getG (v := G 0) 0 (by first | assumption | exact k2 | exact k46 | exact k90) (R'.w) rfl fdX11_84 (q := 10) dX11_windByScore_7 rfl rfl ?_
    refine zr_icmp_ge (q := 33) (q2 := 13) dX11_windByScore_10 (by decide) rfl (fun h10 => ?_) (fun h10 => ?_)
    · rw [show k = G 0 by omega]
      exact kk
    · refine zp_al0 (q := 14) dX11_windByScore_13 rfl ?_
      refine zf_getG (v := 510) 7 (k1) (Hw'.sc) rfl fdX11_47 (q := 17) dX11_windByScore_14 rfl rfl ?_
      refine zp_il2 (q := 18) dX11_windByScore_17 rfl ?_
      refine zp_al0 (q := 19) dX11_windByScore_18 rfl ?_
      refine zf_getG (v := 2) 0 (k1) (Hw'.as) rfl fdX11_10 (q := 22) dX11_windByScore_19 rfl rfl ?_
      refine zp_il2 (q := 23) dX11_windByScore_22 rfl ?_
      refine zf_callV1 (by first | assumption | exact k2 | exact k46 | exact k90) (s_X1_scoreFor as2 R' hG) mtX1_scoreFor wiX1_scoreFor weX1_scoreFor wlX11_225 (q := 26) dX11_windByScore_23 rfl rfl rfl rfl rfl rfl rfl (fun r S9 M9 h8 hP => ?_) (fun k S9 M9 hP => (z_no hP.1 rfl).elim)
      obtain ⟨rfl, rfl, h9⟩ := hP
      subst M9
      refine zf_iast (by first | assumption | exact k518 | exact k519 | exact k520 | exact k521 | exact k522 | exact k523 | exact k524 | exact k525 | exact k526 | exact k527 | exact k528 | exact k510 | exact k512 | exact k515 | exact k516 | exact k507 | exact k509 | exact k135 | exact k489 | exact k529 | exact k530) (q := 27) dX11_windByScore_26 rfl (by omega) (by omega) ?_
      refine zp_inc2 (q := 30) dX11_windByScore_27 rfl rfl rfl (fun hA => by unfold z_in at hA ⊢; omega) ?_
      refine zr_goto (q := 2) dX11_windByScore_30 (by decide) ?_
      rw [zRow_s _ _ _ h0]
      exact ih (k + 1) (by omega) (by omega) (by omega)
theorem s_X11_windByScore (Hw : zHw M) (R : zAR M 2 G) (hG : zWF G) {p : Int} (hp : zBy G p ≠ -1) : z_Call mX11_windByScore zF [(1, 1), (0, p)] M (zpF 0 (zBy G p) (zRow M 510 (zSc G) (G 0))) := by
  have hw := hG.w
  have R' : zAR (zRow M 510 (zSc G) (G 0)) 2 G := R.of hG (fun z _ _ => zRow_ne _ _ _ _ (by omega))
  have Hw' : zHw (zRow M 510 (zSc G) (G 0)) := Hw.of (zRow_ne _ _ _ _ (by decide))
  refine z_enter (k := 2) rfl rfl rfl ?_
  refine zr_iconst (q := 1) dX11_windByScore_0 rfl (z_in_of rfl) ?_
  refine zp_is2 (q := 2) dX11_windByScore_1 rfl rfl rfl ?_
  have e := s_X11_windByScore_k Hw R hG (p := p) (bc := mX11_windByScore.2.2.2.2.2.1) (bs := mX11_windByScore.2.2.2.2.2.2.1) (Q := zpF 0 (zBy G p) (zRow M 510 (zSc G) (G 0))) ?_ 9 0 (by omega) (by omega) (by omega)
  · rw [zRow_0] at e
    exact e
  refine zr_iconst (q := 34) dX11_windByScore_33 rfl (z_in_of rfl) ?_
  refine zp_is2 (q := 35) dX11_windByScore_34 rfl rfl rfl ?_
  refine zr_iconst (q := 36) dX11_windByScore_35 rfl (z_in_of rfl) ?_
  refine zp_is3 (q := 37) dX11_windByScore_36 rfl rfl rfl ?_
  refine s_X11_windByScore_m Hw' R' hG (fun j a1 a2 => zRow_at _ _ _ a1 a2) ?_ 9 0 (-1) (by omega) (by omega) (by omega) (Or.inl ⟨rfl, fun j a1 a2 => by omega⟩)
  refine zp_il2 (q := 66) dX11_windByScore_65 rfl ?_
  refine zp_callS1 (s_X11_found hp) mtX11_found wtX11_found wlX11_147 (q := 69) dX11_windByScore_66 rfl rfl rfl rfl rfl (fun r S9 M9 h8 hP => ?_) (fun k S9 M9 hP => (z_no hP.1 rfl).elim)
  obtain ⟨rfl, rfl, h9⟩ := hP
  subst M9
  refine zr_ireturn dX11_windByScore_69 rfl (z_fit_i _) ?_
  exact ⟨rfl, rfl, rfl⟩
theorem s_X11_windByScore_x (Hw : zHw M) (R : zAR M 2 G) (hG : zWF G) {p : Int} (hp : zBy G p = -1) : z_Call mX11_windByScore zF [(1, 1), (0, p)] M (zpF 8 4 (zRow M 510 (zSc G) (G 0))) := by
  have hw := hG.w
  have R' : zAR (zRow M 510 (zSc G) (G 0)) 2 G := R.of hG (fun z _ _ => zRow_ne _ _ _ _ (by omega))
  have Hw' : zHw (zRow M 510 (zSc G) (G 0)) := Hw.of (zRow_ne _ _ _ _ (by decide))
  refine z_enter (k := 2) rfl rfl rfl ?_
  refine zr_iconst (q := 1) dX11_windByScore_0 rfl (z_in_of rfl) ?_
  refine zp_is2 (q := 2) dX11_windByScore_1 rfl rfl rfl ?_
  have e := s_X11_windByScore_k Hw R hG (p := p) (bc := mX11_windByScore.2.2.2.2.2.1) (bs := mX11_windByScore.2.2.2.2.2.2.1) (Q := zpF 8 4 (zRow M 510 (zSc G) (G 0))) ?_ 9 0 (by omega) (by omega) (by omega)
  · rw [zRow_0] at e
    exact e
  refine zr_iconst (q := 34) dX11_windByScore_33 rfl (z_in_of rfl) ?_
  refine zp_is2 (q := 35) dX11_windByScore_34 rfl rfl rfl ?_
  refine zr_iconst (q := 36) dX11_windByScore_35 rfl (z_in_of rfl) ?_
  refine zp_is3 (q := 37) dX11_windByScore_36 rfl rfl rfl ?_
  refine s_X11_windByScore_m Hw' R' hG (fun j a1 a2 => zRow_at _ _ _ a1 a2) ?_ 9 0 (-1) (by omega) (by omega) (by omega) (Or.inl ⟨rfl, fun j a1 a2 => by omega⟩)
  refine zp_il2 (q := 66) dX11_windByScore_65 rfl ?_
  refine zp_callS1 (s_X11_found_x hp) mtX11_found wtX11_found wlX11_147 (q := 69) dX11_windByScore_66 rfl rfl rfl rfl rfl (fun r S9 M9 h8 hP => absurd (congrArg Prod.fst hP.1) h8) (fun k S9 M9 hP => ?_)
  obtain ⟨h8, rfl, h9⟩ := hP
  subst M9
  cases h8
  exact ⟨rfl, rfl, rfl⟩
theorem s_X12_windByScore_i (H : zHm M) (hG : zWF (M 518)) {p w : Int} (hv0 : 0 ≤ w) (hv1 : w < M 518 0) {bc bs : Nat} {Q : zV → zS → zM → Prop} (kk : z_Ex mX12_windByScore zF 76 [(1, 517), (0, p), (0, w), (0, zRk (M 518) w), (0, M 518 0)] [] M bc bs Q) : ∀ (m : Nat) (k x : Int), 0 ≤ k → k ≤ M 518 0 → M 518 0 - k < m → 0 ≤ x → x ≤ k → x = zU (fun o => if zSc (M 518) w < zSc (M 518) o ∨ (zSc (M 518) o = zSc (M 518) w ∧ o < w) then 1 else 0) k →
    z_Ex mX12_windByScore zF 17 [(1, 517), (0, p), (0, w), (0, x), (0, k)] [] M bc bs Q := by
  have hw := hG.w
  intro m
  induction m with
  | zero => intro k x h0 h1 h2; omega
  | succ m ih =>
    intro k x h0 h1 h2 h3 h4 hx
    refine zp_il4 (q := 19) dX12_windByScore_17 rfl ?_
    refine zp_al0 (q := 20) dX12_windByScore_19 rfl ?_
    refine zf_getG (v := 518) 0 (k517) (H.1) rfl fdX12_7 (q := 23) dX12_windByScore_20 rfl rfl ?_
    refine zr_iconst (q := 24) dX12_windByScore_23 rfl (z_in_of rfl) ?_
    refine zf_iald (v := _) (by first | assumption | exact k518 | exact k519 | exact k520 | exact k521 | exact k522 | exact k523 | exact k524 | exact k525 | exact k526 | exact k527 | exact k528 | exact k510 | exact k512 | exact k515 | exact k516 | exact k507 | exact k509 | exact k135 | exact k489 | exact k529 | exact k530) (rfl) (q := 25) dX12_windByScore_24 rfl (by omega) (by omega) ?_
    refine zr_icmp_ge (q := 76) (q2 := 28) dX12_windByScore_25 (by decide) rfl (fun h25 => ?_) (fun h25 => ?_)
    · have e : k = M 518 0 := by omega
      rw [show x = zRk (M 518) w from hx.trans (by rw [e]; rfl), e]
      exact kk
    · refine zp_il3 (q := 29) dX12_windByScore_28 rfl ?_
      refine zp_al0 (q := 30) dX12_windByScore_29 rfl ?_
      refine zp_il4 (q := 32) dX12_windByScore_30 rfl ?_
      refine zf_callV1 (k517) (s_X12_score H hG) mtX12_score wiX12_score weX12_score wlX12_155 (q := 35) dX12_windByScore_32 rfl rfl rfl rfl rfl rfl rfl (fun r S9 M9 h8 hP => ?_) (fun k S9 M9 hP => (z_no hP.1 rfl).elim)
      obtain ⟨rfl, rfl, h9⟩ := hP
      subst M9
      refine zp_al0 (q := 36) dX12_windByScore_35 rfl ?_
      refine zp_il2 (q := 37) dX12_windByScore_36 rfl ?_
      refine zf_callV1 (k517) (s_X12_score H hG) mtX12_score wiX12_score weX12_score wlX12_155 (q := 40) dX12_windByScore_37 rfl rfl rfl rfl rfl rfl rfl (fun r S9 M9 h8 hP => ?_) (fun k S9 M9 hP => (z_no hP.1 rfl).elim)
      obtain ⟨rfl, rfl, h9⟩ := hP
      subst M9
      refine zr_icmp_gt (q := 63) (q2 := 43) dX12_windByScore_40 (by decide) rfl (fun h40 => ?_) (fun h40 => ?_)
      · refine zr_iconst (q := 64) dX12_windByScore_63 rfl (z_in_of rfl) ?_
        refine zr_goto (q := 68) dX12_windByScore_64 (by decide) ?_
        refine zr_iadd (q := 69) dX12_windByScore_68 rfl (fun hA hB => by unfold z_in at hA hB ⊢; omega) ?_
        refine zp_is3 (q := 70) dX12_windByScore_69 rfl rfl rfl ?_
        refine zp_inc4 (q := 73) dX12_windByScore_70 rfl rfl rfl (fun hA => by unfold z_in at hA ⊢; omega) ?_
        refine zr_goto (q := 17) dX12_windByScore_73 (by decide) ?_
        exact ih (k + 1) _ (by omega) (by omega) (by omega) (by omega) (by omega) (by rw [zU_s _ (by omega), ← hx]; omega)
      · refine zp_al0 (q := 44) dX12_windByScore_43 rfl ?_
        refine zp_il4 (q := 46) dX12_windByScore_44 rfl ?_
        refine zf_callV1 (k517) (s_X12_score H hG) mtX12_score wiX12_score weX12_score wlX12_155 (q := 49) dX12_windByScore_46 rfl rfl rfl rfl rfl rfl rfl (fun r S9 M9 h8 hP => ?_) (fun k S9 M9 hP => (z_no hP.1 rfl).elim)
        obtain ⟨rfl, rfl, h9⟩ := hP
        subst M9
        refine zp_al0 (q := 50) dX12_windByScore_49 rfl ?_
        refine zp_il2 (q := 51) dX12_windByScore_50 rfl ?_
        refine zf_callV1 (k517) (s_X12_score H hG) mtX12_score wiX12_score weX12_score wlX12_155 (q := 54) dX12_windByScore_51 rfl rfl rfl rfl rfl rfl rfl (fun r S9 M9 h8 hP => ?_) (fun k S9 M9 hP => (z_no hP.1 rfl).elim)
        obtain ⟨rfl, rfl, h9⟩ := hP
        subst M9
        refine zr_icmp_ne (q := 67) (q2 := 57) dX12_windByScore_54 (by decide) rfl (fun h54 => ?_) (fun h54 => ?_)
        · refine zr_iconst (q := 68) dX12_windByScore_67 rfl (z_in_of rfl) ?_
          refine zr_iadd (q := 69) dX12_windByScore_68 rfl (fun hA hB => by unfold z_in at hA hB ⊢; omega) ?_
          refine zp_is3 (q := 70) dX12_windByScore_69 rfl rfl rfl ?_
          refine zp_inc4 (q := 73) dX12_windByScore_70 rfl rfl rfl (fun hA => by unfold z_in at hA ⊢; omega) ?_
          refine zr_goto (q := 17) dX12_windByScore_73 (by decide) ?_
          exact ih (k + 1) _ (by omega) (by omega) (by omega) (by omega) (by omega) (by rw [zU_s _ (by omega), ← hx]; omega)
        · refine zp_il4 (q := 59) dX12_windByScore_57 rfl ?_
          refine zp_il2 (q := 60) dX12_windByScore_59 rfl ?_
          refine zr_icmp_ge (q := 67) (q2 := 63) dX12_windByScore_60 (by decide) rfl (fun h60 => ?_) (fun h60 => ?_)
          · refine zr_iconst (q := 68) dX12_windByScore_67 rfl (z_in_of rfl) ?_
            refine zr_iadd (q := 69) dX12_windByScore_68 rfl (fun hA hB => by unfold z_in at hA hB ⊢; omega) ?_
            refine zp_is3 (q := 70) dX12_windByScore_69 rfl rfl rfl ?_
            refine zp_inc4 (q := 73) dX12_windByScore_70 rfl rfl rfl (fun hA => by unfold z_in at hA ⊢; omega) ?_
            refine zr_goto (q := 17) dX12_windByScore_73 (by decide) ?_
            exact ih (k + 1) _ (by omega) (by omega) (by omega) (by omega) (by omega) (by rw [zU_s _ (by omega), ← hx]; omega)
          · refine zr_iconst (q := 64) dX12_windByScore_63 rfl (z_in_of rfl) ?_
            refine zr_goto (q := 68) dX12_windByScore_64 (by decide) ?_
            refine zr_iadd (q := 69) dX12_windByScore_68 rfl (fun hA hB => by unfold z_in at hA hB ⊢; omega) ?_
            refine zp_is3 (q := 70) dX12_windByScore_69 rfl rfl rfl ?_
            refine zp_inc4 (q := 73) dX12_windByScore_70 rfl rfl rfl (fun hA => by unfold z_in at hA ⊢; omega) ?_
            refine zr_goto (q := 17) dX12_windByScore_73 (by decide) ?_
            exact ih (k + 1) _ (by omega) (by omega) (by omega) (by omega) (by omega) (by rw [zU_s _ (by omega), ← hx]; omega)
theorem s_X12_windByScore_l (H : zHm M) (hG : zWF (M 518)) {p : Int} {bc bs : Nat} : ∀ (m : Nat) (k : Int), 0 ≤ k → k ≤ M 518 0 → M 518 0 - k < m → (∀ j, 0 ≤ j → j < k → ¬ zRk (M 518) j = p) →
    z_Ex mX12_windByScore zF 2 [(1, 517), (0, p), (0, k), (9, 0), (9, 0)] [] M bc bs (zpF 0 (if zBy (M 518) p = -1 then 0 else zBy (M 518) p) (z_up M 517 7 (if zBy (M 518) p = -1 then 1 else 0))) := by
  have hw := hG.w
  intro m
  induction m with
  | zero => intro k h0 h1 h2; omega
  | succ m ih =>
    intro k h0 h1 h2 hx
    have kk : k < M 518 0 → z_Ex mX12_windByScore zF 76 [(1, 517), (0, p), (0, k), (0, zRk (M 518) k), (0, M 518 0)] [] M bc bs (zpF 0 (if zBy (M 518) p = -1 then 0 else zBy (M 518) p) (z_up M 517 7 (if zBy (M 518) p = -1 then 1 else 0))) := by
      intro hk
      refine zp_il3 (q := 77) dX12_windByScore_76 rfl ?_
      refine zp_il1 (q := 78) dX12_windByScore_77 rfl ?_
      refine zr_icmp_eq (q := 84) (q2 := 81) dX12_windByScore_78 (by decide) rfl (fun h78 => ?_) (fun h78 => ?_)
      · refine zp_al0 (q := 85) dX12_windByScore_84 rfl ?_
        refine zr_iconst (q := 86) dX12_windByScore_85 rfl (z_in_of rfl) ?_
        refine zf_putG 7 (k517) rfl fpX12_52 (q := 89) dX12_windByScore_86 rfl rfl (by decide) (z_fit_i _) ?_
        refine zp_il2 (q := 90) dX12_windByScore_89 rfl ?_
        refine zr_ireturn dX12_windByScore_90 rfl (z_fit_i _) ?_
        have e : zBy (M 518) p = k := zFs_yes h0 (by omega) (decide_eq_true h78) (fun j a1 a2 => decide_eq_false (hx j a1 a2))
        exact ⟨by rw [e, if_neg (by omega)], rfl, by rw [e, if_neg (by omega)] <;> rfl⟩
      · refine zr_goto (q := 91) dX12_windByScore_81 (by decide) ?_
        refine zp_inc2 (q := 94) dX12_windByScore_91 rfl rfl rfl (fun hA => by unfold z_in at hA ⊢; omega) ?_
        refine zr_goto (q := 2) dX12_windByScore_94 (by decide) ?_
        exact zr_drop 3 (zr_drop 4 (ih (k + 1) (by omega) (by omega) (by omega) (fun j a1 a2 => by
          by_cases e : j = k
          · rw [e]; exact h78
          · exact hx j a1 (by omega))))
    refine zp_il2 (q := 3) dX12_windByScore_2 rfl ?_
    refine zp_al0 (q := 4) dX12_windByScore_3 rfl ?_
    refine zf_getG (v := 518) 0 (k517) (H.1) rfl fdX12_7 (q := 7) dX12_windByScore_4 rfl rfl ?_
    refine zr_iconst (q := 8) dX12_windByScore_7 rfl (z_in_of rfl) ?_
    refine zf_iald (v := _) (by first | assumption | exact k518 | exact k519 | exact k520 | exact k521 | exact k522 | exact k523 | exact k524 | exact k525 | exact k526 | exact k527 | exact k528 | exact k510 | exact k512 | exact k515 | exact k516 | exact k507 | exact k509 | exact k135 | exact k489 | exact k529 | exact k530) (rfl) (q := 9) dX12_windByScore_8 rfl (by omega) (by omega) ?_
    refine zr_icmp_ge (q := 97) (q2 := 12) dX12_windByScore_9 (by decide) rfl (fun h9 => ?_) (fun h9 => ?_)
    · refine zp_al0 (q := 98) dX12_windByScore_97 rfl ?_
      refine zr_iconst (q := 99) dX12_windByScore_98 rfl (z_in_of rfl) ?_
      refine zf_putG 7 (k517) rfl fpX12_52 (q := 102) dX12_windByScore_99 rfl rfl (by decide) (z_fit_i _) ?_
      refine zr_iconst (q := 103) dX12_windByScore_102 rfl (z_in_of rfl) ?_
      refine zr_ireturn dX12_windByScore_103 rfl (z_fit_i _) ?_
      have e : zBy (M 518) p = -1 := zFs_no (fun j a1 a2 => decide_eq_false (hx j a1 (by omega)))
      exact ⟨by rw [if_pos e], rfl, by rw [if_pos e] <;> rfl⟩
    · refine zr_iconst (q := 13) dX12_windByScore_12 rfl (z_in_of rfl) ?_
      refine zp_is3 (q := 14) dX12_windByScore_13 rfl rfl rfl ?_
      refine zr_iconst (q := 15) dX12_windByScore_14 rfl (z_in_of rfl) ?_
      refine zp_is4 (q := 17) dX12_windByScore_15 rfl rfl rfl ?_
      exact s_X12_windByScore_i H hG h0 (by omega) (kk (by omega)) 9 0 0 (by omega) (by omega) (by omega) (by omega) (by omega) rfl
theorem s_X12_windByScore (H : zHm M) (hG : zWF (M 518)) {p : Int} : z_Call mX12_windByScore zF [(1, 517), (0, p)] M (zpF 0 (if zBy (M 518) p = -1 then 0 else zBy (M 518) p) (z_up M 517 7 (if zBy (M 518) p = -1 then 1 else 0))) := by
  have hw := hG.w
  refine z_enter (k := 3) rfl rfl rfl ?_
  refine zr_iconst (q := 1) dX12_windByScore_0 rfl (z_in_of rfl) ?_
  refine zp_is2 (q := 2) dX12_windByScore_1 rfl rfl rfl ?_
  exact s_X12_windByScore_l H hG 9 0 (by omega) (by omega) (by omega) (fun j a1 a2 => by omega)
end ZD
