/-! dep: 70 71 72 73 74 75 -/
/-! ===== carrying a command out: the reference ===== -/
section ZXR
variable {M : zM} {L : List Int} {p K : Int}
/-- what has been typed -/
def zTi8 (M : zM) (L : List Int) : Prop := ∀ i : Nat, i < L.length → M 522 i = L.getD i 0
theorem zTi8_g (h : zTi8 M L) {p : Int} (h0 : 0 ≤ p) (h1 : p < L.length) : M 522 p = zCh9 L p := by
  have e := h p.toNat (by omega)
  rw [show ((p.toNat : Nat) : Int) = p by omega] at e
  rw [zCh9_in h0 h1]
  exact e
theorem zKp.w {M' : zM} {f : Int → Int} (h : zKp M M' f) (h6 : M 517 6 ≠ 0) : M' 519 = M 519 ∧ M' 517 5 = M 517 5 := by
  rcases h with ⟨_, a, b⟩ | ⟨a, _⟩ | ⟨a, _⟩
  · exact ⟨a, b⟩
  · exact absurd a h6
  · exact absurd a h6
/-- what stays -/
def zMw (M M' : zM) : Prop := zMF M M' ∧ M' 519 = M 519 ∧ M' 517 5 = M 517 5
theorem zMw.r (M : zM) : zMw M M := ⟨⟨fun _ _ _ _ _ _ _ _ => rfl, fun _ _ _ _ _ _ => rfl⟩, rfl, rfl⟩
theorem zMw.t {M1 M2 : zM} (h : zMw M M1) (h2 : zMw M1 M2) : zMw M M2 := ⟨⟨fun z a b c d e f g => (h2.1.1 z a b c d e f g).trans (h.1.1 z a b c d e f g), fun j a b c d e => (h2.1.2 j a b c d e).trans (h.1.2 j a b c d e)⟩, h2.2.1.trans h.2.1, h2.2.2.trans h.2.2⟩
theorem zMw.h {M' : zM} (h : zMw M M') (H : zHm M) : zHm M' := H.of (fun j a b c d e => h.1.2 j a b c d e)
theorem zMw.c {v : Int} : zMw M (z_up M 517 7 v) := ⟨⟨fun z a _ _ _ _ _ _ => z_up_ne a, fun j _ b _ _ _ => z_up_sl b⟩, z_up_ne (by decide), z_up_sl (by decide)⟩
theorem zMw.told {M' : zM} (h : zMw M M') : M' 528 = M 528 := h.1.1 528 (by decide) (by decide) (by decide) (by decide) (by decide) (by decide) (by decide)
theorem zMw.input {M' : zM} (h : zMw M M') : M' 522 = M 522 := h.1.1 522 (by decide) (by decide) (by decide) (by decide) (by decide) (by decide) (by decide)
theorem zMw.w6 {M' : zM} (h : zMw M M') : M' 517 6 = M 517 6 := h.1.2 6 (by decide) (by decide) (by decide) (by decide) (by decide)
abbrev zmX (cond : Prop) (G' : Int → Int) (M : zM) : zV → zS → zM → Prop := fun r S' M' => ∃ v, r = (0, v) ∧ S' = zF ∧ zMw M M' ∧ ((cond ∧ M' 517 7 = 0 ∧ M' 518 = G') ∨ (¬ cond ∧ 1 ≤ M' 517 7))
theorem zmX_y {Y : zY} {as : List zV} {cond : Prop} {G' : Int → Int} {x : Int} (h : cond) (h6 : M 517 6 ≠ 0) (hc : z_Call Y zF as M (zmA x G' M)) : z_Call Y zF as M (zmX cond G' M) := z_call_mono hc (fun _ _ _ hp => ⟨x, hp.1, hp.2.1, ⟨hp.2.2.1, hp.2.2.2.2.1.w h6⟩, Or.inl ⟨h, hp.2.2.2.1, hp.2.2.2.2.2⟩⟩)
theorem zmX_n {Y : zY} {as : List zV} {cond : Prop} {G' : Int → Int} {x : Int} (h : ¬ cond) (h1 : 1 ≤ x) (hc : z_Call Y zF as M (zpF 0 0 (z_up M 517 7 x))) : z_Call Y zF as M (zmX cond G' M) := z_call_mono hc (fun _ _ _ hp => ⟨0, hp.1, hp.2.1, by rw [hp.2.2]; exact zMw.c, Or.inr ⟨h, by rw [hp.2.2, z_up_eq]; exact h1⟩⟩)
theorem s_X12_addWind_q (H : zHm M) (hG : zWF (M 518)) (h5 : 0 ≤ M 517 5 ∧ M 517 5 ≤ 8) (h6 : M 517 6 ≠ 0) : z_Call mX12_addWind zF [(1, 517)] M (zmX (M 518 0 < 8) (gAdd (M 518)) M) := by
  have hw := hG.w
  by_cases h : M 518 0 < 8
  · exact zmX_y h h6 (s_X12_addWind H hG h5 h)
  · exact zmX_n h (by decide) (s_X12_addWind_x H (by omega))
theorem s_X12_withdraw_q (H : zHm M) (hG : zWF (M 518)) (h5 : 0 ≤ M 517 5 ∧ M 517 5 ≤ 8) (h6 : M 517 6 ≠ 0) {w : Int} : z_Call mX12_withdraw zF [(1, 517), (0, w)] M (zmX (0 ≤ w ∧ w < M 518 0 ∧ M 518 (4 + w) = 0) (gGo (M 518) w) M) := by
  by_cases h : 0 ≤ w ∧ w < M 518 0
  · by_cases h2 : M 518 (4 + w) = 0
    · exact zmX_y ⟨h.1, h.2, h2⟩ h6 (s_X12_withdraw H hG h5 h.1 h.2 h2)
    · exact zmX_n (fun e => h2 e.2.2) (by decide) (s_X12_withdraw_y H hG h.1 h.2 h2)
  · exact zmX_n (fun e => h ⟨e.1, e.2.1⟩) (by decide) (s_X12_withdraw_x H hG h)
theorem s_X12_addBallot_n (H : zHm M) (hG : zWF (M 518)) {x f : Int} (hs : ¬ zBs (M 518) x f) : z_Call mX12_addBallot zF [(1, 517), (0, x), (0, f)] M (fun r S' M' => r = (0, 0) ∧ S' = zF ∧ zMw M M' ∧ 1 ≤ M' 517 7) := by
  by_cases h : 0 ≤ f ∧ f < M 518 0
  · by_cases h2 : 1 ≤ x ∧ x ≤ 99
    · exact z_call_mono (s_X12_addBallot_z H hG h h2 (fun e => hs ⟨h, h2, e⟩)) (fun _ _ _ hp => ⟨hp.1, hp.2.1, by rw [hp.2.2]; exact zMw.c, by rw [hp.2.2, z_up_eq]; decide⟩)
    · exact z_call_mono (s_X12_addBallot_y H hG h h2) (fun _ _ _ hp => ⟨hp.1, hp.2.1, by rw [hp.2.2]; exact zMw.c, by rw [hp.2.2, z_up_eq]; decide⟩)
  · exact z_call_mono (s_X12_addBallot_x H hG h) (fun _ _ _ hp => ⟨hp.1, hp.2.1, by rw [hp.2.2]; exact zMw.c, by rw [hp.2.2, z_up_eq]; decide⟩)
theorem s_X12_rank_q (H : zHm M) (hG : zWF (M 518)) (h5 : 0 ≤ M 517 5 ∧ M 517 5 ≤ 8) (h6 : M 517 6 ≠ 0) {b w : Int} : z_Call mX12_rank zF [(1, 517), (0, b), (0, w)] M (zmX (zRo9 (M 518) b w) (gRank (M 518) b w) M) := by
  by_cases h : 0 ≤ b ∧ b < M 518 1
  · by_cases h2 : 0 ≤ w ∧ w < M 518 0
    · by_cases h3 : zPl (M 518) b w = -1
      · by_cases h4 : M 518 (20 + 7 * b + 1) < 5
        · exact zmX_y ⟨h, h2, h3, h4⟩ h6 (s_X12_rank H hG h5 h h2 h3 h4)
        · exact zmX_n (fun e => h4 e.2.2.2) (by decide) (s_X12_rank_u H hG h h2 h3 h4)
      · exact zmX_n (fun e => h3 e.2.2.1) (by decide) (s_X12_rank_z H hG h h2 h3)
    · exact zmX_n (fun e => h2 e.2.1) (by decide) (s_X12_rank_y H hG h h2)
  · exact zmX_n (fun e => h e.1) (by decide) (s_X12_rank_x H hG h)
theorem s_X12_removeBallot_q (H : zHm M) (hG : zWF (M 518)) (h5 : 0 ≤ M 517 5 ∧ M 517 5 ≤ 8) (h6 : M 517 6 ≠ 0) {b : Int} : z_Call mX12_removeBallot zF [(1, 517), (0, b)] M (zmX (0 ≤ b ∧ b < M 518 1) (gRem (M 518) b) M) := by
  by_cases h : 0 ≤ b ∧ b < M 518 1
  · exact zmX_y h h6 (s_X12_removeBallot H hG h5 h)
  · exact zmX_n h (by decide) (s_X12_removeBallot_x H hG h)
theorem s_X12_recount_q (H : zHm M) (hG : zWF (M 518)) (h5 : 0 ≤ M 517 5 ∧ M 517 5 ≤ 8) (h6 : M 517 6 ≠ 0) {b x : Int} : z_Call mX12_recount zF [(1, 517), (0, b), (0, x)] M (zmX ((0 ≤ b ∧ b < M 518 1) ∧ (1 ≤ x ∧ x ≤ 99)) (gRec (M 518) b x) M) := by
  by_cases h : 0 ≤ b ∧ b < M 518 1
  · by_cases h2 : 1 ≤ x ∧ x ≤ 99
    · exact zmX_y ⟨h, h2⟩ h6 (s_X12_recount H hG h5 h h2)
    · exact zmX_n (fun e => h2 e.2) (by decide) (s_X12_recount_y H hG h h2)
  · exact zmX_n (fun e => h e.1) (by decide) (s_X12_recount_x H hG h)
theorem s_X12_certify_q (H : zHm M) (hG : zWF (M 518)) (h5 : 0 ≤ M 517 5 ∧ M 517 5 ≤ 8) (h6 : M 517 6 ≠ 0) : z_Call mX12_certify zF [(1, 517)] M (zmX (zSt (M 518) ≠ 0) (gCert (M 518)) M) := by
  by_cases h : zSt (M 518) = 0
  · exact z_call_mono (s_X12_certify_x H hG h) (fun _ _ _ hp => ⟨0, hp.1, hp.2.1, ⟨⟨fun z a b c d e f g => hp.2.2.1 z a d e f g, fun j a b c d e => hp.2.2.2.1 j b c d e⟩, hp.2.2.1 519 (by decide) (by decide) (by decide) (by decide) (by decide), hp.2.2.2.1 5 (by decide) (by decide) (by decide) (by decide)⟩, Or.inr ⟨fun q => q h, by rw [hp.2.2.2.2]; decide⟩⟩)
  · exact zmX_y h h6 (s_X12_certify H hG h5 h)
theorem s_X12_fills_x (H : zHm M) {b n k : Int} (hn : M 528 (5 * K + 4) = n) (K0 : 0 ≤ K) (K1 : K ≤ 29) (h7 : 1 ≤ M 517 7) {bc bs : Nat} {Q : zV → zS → zM → Prop} (hQ : Q (0, b) zF M) : z_Ex mX12_fills zF 23 [(1, 517), (0, 5 * K), (0, b), (0, k)] [] M bc bs Q := by
  refine zp_il3 (q := 24) dX12_fills_23 rfl ?_
  refine zp_al0 (q := 25) dX12_fills_24 rfl ?_
  refine zf_getG (v := 528) 22 (k517) (H.2.2.2.2.2.2.2.2.2.2) rfl fdX12_49 (q := 28) dX12_fills_25 rfl rfl ?_
  refine zp_il1 (q := 29) dX12_fills_28 rfl ?_
  refine zr_iconst (q := 30) dX12_fills_29 rfl (z_in_of rfl) ?_
  refine zr_iadd (q := 31) dX12_fills_30 rfl (fun hA hB => by unfold z_in at hA hB ⊢; omega) ?_
  refine zf_iald (v := n) (by first | assumption | exact k518 | exact k519 | exact k520 | exact k521 | exact k522 | exact k523 | exact k524 | exact k525 | exact k526 | exact k527 | exact k528 | exact k510 | exact k512 | exact k515 | exact k516 | exact k507 | exact k509 | exact k135 | exact k489 | exact k529 | exact k530) (hn) (q := 32) dX12_fills_31 rfl (by omega) (by omega) ?_
  refine zr_icmp_ge (q := 76) (q2 := 35) dX12_fills_32 (by decide) rfl (fun h32 => ?_) (fun h32 => ?_)
  · refine zp_il2 (q := 77) dX12_fills_76 rfl ?_
    refine zr_ireturn dX12_fills_77 rfl (z_fit_i _) ?_
    exact hQ
  · refine zp_al0 (q := 36) dX12_fills_35 rfl ?_
    refine zf_getG (v := M 517 7) 7 (k517) (rfl) rfl fdX12_52 (q := 39) dX12_fills_36 rfl rfl ?_
    refine zr_if_ne (q := 76) (q2 := 42) dX12_fills_39 (by decide) rfl (fun h39 => ?_) (fun h39 => ?_)
    · refine zp_il2 (q := 77) dX12_fills_76 rfl ?_
      refine zr_ireturn dX12_fills_77 rfl (z_fit_i _) ?_
      exact hQ
    · exact absurd (show M 517 7 ≠ 0 by omega) h39
theorem s_X12_fills_l (H : zHm M) (hT : zTi8 M L) (hl : L.length ≤ 60) {x f n q : Int} (K0 : 0 ≤ K) (K1 : K ≤ 29) (hn : M 528 (5 * K + 4) = n) (hq : M 528 (5 * K + 3) = q) (hn0 : 0 ≤ n ∧ n < 60) (q0 : 0 ≤ q ∧ q ≤ 60) {c W : Int → Int} (hc : c = zCh9 L) (hd : ∀ j, 0 ≤ j → j < n → 48 ≤ c (q + 2 * j + 1) ∧ W j = c (q + 2 * j + 1) - 48) (h5 : 0 ≤ M 517 5 ∧ M 517 5 ≤ 8) (h6 : M 517 6 ≠ 0) (hG : zWF (M 518)) (hb : zBs (M 518) x f) {bc bs : Nat} {Q : zV → zS → zM → Prop}
    (hy : zBo (M 518) x f W n.toNat → ∀ M', zMw M M' → M' 517 7 = 0 → M' 518 = zB9 (M 518) x f W n.toNat → Q (0, M 518 1) zF M') (hx : ¬ zBo (M 518) x f W n.toNat → ∀ M', zMw M M' → 1 ≤ M' 517 7 → Q (0, M 518 1) zF M') :
    ∀ (m : Nat) (j : Int) (M' : zM), 0 ≤ j → j ≤ n → n - j < m → zMw M M' → M' 517 7 = 0 → M' 518 = zB9 (M 518) x f W j.toNat → (∀ i : Nat, (i : Int) < j → zRo9 (zB9 (M 518) x f W i) (M 518 1) (W i)) →
    z_Ex mX12_fills zF 23 [(1, 517), (0, 5 * K), (0, M 518 1), (0, j)] [] M' bc bs Q := by
  subst hc
  intro m
  induction m with
  | zero => intro j M' a1 a2 a3; omega
  | succ m ih =>
    intro j M' a1 a2 a3 hM h7 hR hj
    have H' := hM.h H
    have hwf := zB9_w (W := W) hG hb j.toNat (fun i hi => hj i (by omega))
    have et := hM.told
    have e4 : M' 528 (5 * K + 4) = n := by rw [et]; exact hn
    have e3 : M' 528 (5 * K + 3) = q := by rw [et]; exact hq
    have e6 : M' 517 6 ≠ 0 := by rw [hM.w6]; exact h6
    have e5 : 0 ≤ M' 517 5 ∧ M' 517 5 ≤ 8 := by rw [hM.2.2]; exact h5
    by_cases ej : j < n
    · obtain ⟨d1, d2⟩ := hd j a1 ej
      have hlt : q + 2 * j + 1 < L.length := by
        by_cases e : q + 2 * j + 1 < L.length
        · exact e
        · rw [zCh9_out (by omega)] at d1
          omega
      have ei : M' 522 (q + 2 * j + 1) = zCh9 L (q + 2 * j + 1) := by
        rw [hM.input]
        exact zTi8_g hT (by omega) hlt
      have sE := s_X12_rank_q (b := M 518 1) (w := W j) H' (by rw [hR]; exact hwf.1) e5 e6
      rw [hR] at sE
      rw [d2] at sE
      refine zp_il3 (q := 24) dX12_fills_23 rfl ?_
      refine zp_al0 (q := 25) dX12_fills_24 rfl ?_
      refine zf_getG (v := 528) 22 (k517) (H'.2.2.2.2.2.2.2.2.2.2) rfl fdX12_49 (q := 28) dX12_fills_25 rfl rfl ?_
      refine zp_il1 (q := 29) dX12_fills_28 rfl ?_
      refine zr_iconst (q := 30) dX12_fills_29 rfl (z_in_of rfl) ?_
      refine zr_iadd (q := 31) dX12_fills_30 rfl (fun hA hB => by unfold z_in at hA hB ⊢; omega) ?_
      refine zf_iald (v := n) (by first | assumption | exact k518 | exact k519 | exact k520 | exact k521 | exact k522 | exact k523 | exact k524 | exact k525 | exact k526 | exact k527 | exact k528 | exact k510 | exact k512 | exact k515 | exact k516 | exact k507 | exact k509 | exact k135 | exact k489 | exact k529 | exact k530) (e4) (q := 32) dX12_fills_31 rfl (by omega) (by omega) ?_
      refine zr_icmp_ge (q := 76) (q2 := 35) dX12_fills_32 (by decide) rfl (fun h32 => ?_) (fun h32 => ?_)
      · exact absurd h32 (by omega)
      · refine zp_al0 (q := 36) dX12_fills_35 rfl ?_
        refine zf_getG (v := 0) 7 (k517) (h7) rfl fdX12_52 (q := 39) dX12_fills_36 rfl rfl ?_
        refine zr_if_ne (q := 76) (q2 := 42) dX12_fills_39 (by decide) rfl (fun h39 => ?_) (fun h39 => ?_)
        · exact absurd rfl h39
        · refine zp_al0 (q := 43) dX12_fills_42 rfl ?_
          refine zp_il2 (q := 44) dX12_fills_43 rfl ?_
          refine zp_al0 (q := 45) dX12_fills_44 rfl ?_
          refine zf_getG (v := 522) 8 (k517) (H'.2.2.2.2.1) rfl fdX12_22 (q := 48) dX12_fills_45 rfl rfl ?_
          refine zp_al0 (q := 49) dX12_fills_48 rfl ?_
          refine zf_getG (v := 528) 22 (k517) (H'.2.2.2.2.2.2.2.2.2.2) rfl fdX12_49 (q := 52) dX12_fills_49 rfl rfl ?_
          refine zp_il1 (q := 53) dX12_fills_52 rfl ?_
          refine zr_iconst (q := 54) dX12_fills_53 rfl (z_in_of rfl) ?_
          refine zr_iadd (q := 55) dX12_fills_54 rfl (fun hA hB => by unfold z_in at hA hB ⊢; omega) ?_
          refine zf_iald (v := q) (by first | assumption | exact k518 | exact k519 | exact k520 | exact k521 | exact k522 | exact k523 | exact k524 | exact k525 | exact k526 | exact k527 | exact k528 | exact k510 | exact k512 | exact k515 | exact k516 | exact k507 | exact k509 | exact k135 | exact k489 | exact k529 | exact k530) (e3) (q := 56) dX12_fills_55 rfl (by omega) (by omega) ?_
          refine zr_iconst (q := 57) dX12_fills_56 rfl (z_in_of rfl) ?_
          refine zp_il3 (q := 58) dX12_fills_57 rfl ?_
          refine zr_imul (q := 59) dX12_fills_58 rfl (fun hA hB => by unfold z_in at hA hB ⊢; omega) ?_
          refine zr_iadd (q := 60) dX12_fills_59 rfl (fun hA hB => by unfold z_in at hA hB ⊢; omega) ?_
          refine zr_iconst (q := 61) dX12_fills_60 rfl (z_in_of rfl) ?_
          refine zr_iadd (q := 62) dX12_fills_61 rfl (fun hA hB => by unfold z_in at hA hB ⊢; omega) ?_
          refine zf_iald (v := zCh9 L (q + 2 * j + 1)) (by first | assumption | exact k518 | exact k519 | exact k520 | exact k521 | exact k522 | exact k523 | exact k524 | exact k525 | exact k526 | exact k527 | exact k528 | exact k510 | exact k512 | exact k515 | exact k516 | exact k507 | exact k509 | exact k135 | exact k489 | exact k529 | exact k530) (ei) (q := 63) dX12_fills_62 rfl (by omega) (by omega) ?_
          refine zr_bipush (q := 65) dX12_fills_63 rfl (z_in_of rfl) (by decide +kernel) ?_
          refine zr_isub (q := 66) dX12_fills_65 rfl (fun hA hB => by unfold z_in at hA hB ⊢; omega) ?_
          refine zf_callV2 (k517) (sE) mtX12_rank wiX12_rank weX12_rank wlX12_229 (q := 69) dX12_fills_66 rfl rfl rfl rfl rfl rfl rfl (fun r S9 M9 h8 hP => ?_) (fun k S9 M9 hP => by obtain ⟨x9, hx9, _⟩ := hP; exact (z_no hx9 rfl).elim)
          obtain ⟨y, rfl, rfl, x1, hh⟩ := hP
          refine zr_pop (q := 70) dX12_fills_69 rfl (Or.inl rfl) ?_
          refine zp_inc3 (q := 73) dX12_fills_70 rfl rfl rfl (fun hA => by unfold z_in at hA ⊢; omega) ?_
          refine zr_goto (q := 23) dX12_fills_73 (by decide) ?_
          rcases hh with ⟨b1, b2, b3⟩ | ⟨b1, b2⟩
          · rw [← d2] at b1 b3
            refine ih (j + 1) M9 (by omega) (by omega) (by omega) (hM.t x1) b2 ?_ (fun i hi => ?_)
            · rw [show (j + 1).toNat = j.toNat + 1 by omega, b3]
              show gRank (zB9 (M 518) x f W j.toNat) (M 518 1) (W j) = gRank (zB9 (M 518) x f W j.toNat) (M 518 1) (W ((j.toNat : Nat) : Int))
              rw [show ((j.toNat : Nat) : Int) = j by omega]
            · by_cases e : (i : Int) = j
              · rw [show i = j.toNat by omega, show ((j.toNat : Nat) : Int) = j by omega]
                exact b1
              · exact hj i (by omega)
          · rw [← d2] at b1
            refine s_X12_fills_x (x1.h H') (n := n) (by rw [x1.told]; exact e4) K0 K1 b2 (hx (fun ho => b1 ?_) _ (hM.t x1) b2)
            have := ho.2 j.toNat (by omega)
            rw [show ((j.toNat : Nat) : Int) = j by omega] at this
            exact this
    · have ej2 : j = n := by omega
      subst ej2
      refine zp_il3 (q := 24) dX12_fills_23 rfl ?_
      refine zp_al0 (q := 25) dX12_fills_24 rfl ?_
      refine zf_getG (v := 528) 22 (k517) (H'.2.2.2.2.2.2.2.2.2.2) rfl fdX12_49 (q := 28) dX12_fills_25 rfl rfl ?_
      refine zp_il1 (q := 29) dX12_fills_28 rfl ?_
      refine zr_iconst (q := 30) dX12_fills_29 rfl (z_in_of rfl) ?_
      refine zr_iadd (q := 31) dX12_fills_30 rfl (fun hA hB => by unfold z_in at hA hB ⊢; omega) ?_
      refine zf_iald (v := j) (by first | assumption | exact k518 | exact k519 | exact k520 | exact k521 | exact k522 | exact k523 | exact k524 | exact k525 | exact k526 | exact k527 | exact k528 | exact k510 | exact k512 | exact k515 | exact k516 | exact k507 | exact k509 | exact k135 | exact k489 | exact k529 | exact k530) (e4) (q := 32) dX12_fills_31 rfl (by omega) (by omega) ?_
      refine zr_icmp_ge (q := 76) (q2 := 35) dX12_fills_32 (by decide) rfl (fun h32 => ?_) (fun h32 => ?_)
      · refine zp_il2 (q := 77) dX12_fills_76 rfl ?_
        refine zr_ireturn dX12_fills_77 rfl (z_fit_i _) ?_
        exact hy ⟨hb, fun i hi => hj i (by omega)⟩ M' hM h7 hR
      · exact absurd (by omega) h32
theorem s_X12_fills (H : zHm M) (hT : zTi8 M L) (hl : L.length ≤ 60) {x f n q : Int} (K0 : 0 ≤ K) (K1 : K ≤ 29) (h1 : M 528 (5 * K + 1) = x) (h2 : M 528 (5 * K + 2) = f) (hn : M 528 (5 * K + 4) = n) (hq : M 528 (5 * K + 3) = q) (hn0 : 0 ≤ n ∧ n < 60) (q0 : 0 ≤ q ∧ q ≤ 60) {c W : Int → Int} (hc : c = zCh9 L) (hd : ∀ j, 0 ≤ j → j < n → 48 ≤ c (q + 2 * j + 1) ∧ W j = c (q + 2 * j + 1) - 48) (h5 : 0 ≤ M 517 5 ∧ M 517 5 ≤ 8) (h6 : M 517 6 ≠ 0) (hG : zWF (M 518)) :
    z_Call mX12_fills zF [(1, 517), (0, 5 * K)] M (zmX (zBo (M 518) x f W n.toNat) (zB9 (M 518) x f W n.toNat) M) := by
  refine z_enter (k := 2) rfl rfl rfl ?_
  by_cases hs : zBs (M 518) x f
  · skip
    refine zp_al0 (q := 1) dX12_fills_0 rfl ?_
    refine zp_al0 (q := 2) dX12_fills_1 rfl ?_
    refine zf_getG (v := 528) 22 (k517) (H.2.2.2.2.2.2.2.2.2.2) rfl fdX12_49 (q := 5) dX12_fills_2 rfl rfl ?_
    refine zp_il1 (q := 6) dX12_fills_5 rfl ?_
    refine zr_iconst (q := 7) dX12_fills_6 rfl (z_in_of rfl) ?_
    refine zr_iadd (q := 8) dX12_fills_7 rfl (fun hA hB => by unfold z_in at hA hB ⊢; omega) ?_
    refine zf_iald (v := x) (by first | assumption | exact k518 | exact k519 | exact k520 | exact k521 | exact k522 | exact k523 | exact k524 | exact k525 | exact k526 | exact k527 | exact k528 | exact k510 | exact k512 | exact k515 | exact k516 | exact k507 | exact k509 | exact k135 | exact k489 | exact k529 | exact k530) (h1) (q := 9) dX12_fills_8 rfl (by omega) (by omega) ?_
    refine zp_al0 (q := 10) dX12_fills_9 rfl ?_
    refine zf_getG (v := 528) 22 (k517) (H.2.2.2.2.2.2.2.2.2.2) rfl fdX12_49 (q := 13) dX12_fills_10 rfl rfl ?_
    refine zp_il1 (q := 14) dX12_fills_13 rfl ?_
    refine zr_iconst (q := 15) dX12_fills_14 rfl (z_in_of rfl) ?_
    refine zr_iadd (q := 16) dX12_fills_15 rfl (fun hA hB => by unfold z_in at hA hB ⊢; omega) ?_
    refine zf_iald (v := f) (by first | assumption | exact k518 | exact k519 | exact k520 | exact k521 | exact k522 | exact k523 | exact k524 | exact k525 | exact k526 | exact k527 | exact k528 | exact k510 | exact k512 | exact k515 | exact k516 | exact k507 | exact k509 | exact k135 | exact k489 | exact k529 | exact k530) (h2) (q := 17) dX12_fills_16 rfl (by omega) (by omega) ?_
    refine zf_callV2 (k517) (s_X12_addBallot H hG h5 hs.2.1 hs.1 hs.2.2) mtX12_addBallot wiX12_addBallot weX12_addBallot wlX12_226 (q := 20) dX12_fills_17 rfl rfl rfl rfl rfl rfl rfl (fun r S9 M9 h8 hP => ?_) (fun k S9 M9 hP => (z_no hP.1 rfl).elim)
    obtain ⟨rfl, rfl, x1, x2, x3, x4⟩ := hP
    refine zp_is2 (q := 21) dX12_fills_20 rfl rfl rfl ?_
    refine zr_iconst (q := 22) dX12_fills_21 rfl (z_in_of rfl) ?_
    refine zp_is3 (q := 23) dX12_fills_22 rfl rfl rfl ?_
    exact s_X12_fills_l H hT hl K0 K1 hn hq hn0 q0 hc hd h5 h6 hG hs (fun a M1 b d e => ⟨_, rfl, rfl, b, Or.inl ⟨a, d, e⟩⟩) (fun a M1 b d => ⟨_, rfl, rfl, b, Or.inr ⟨a, d⟩⟩) 61 0 M9 (by omega) (by omega) (by omega) ⟨x1, x3.w h6⟩ x2 x4 (fun i hi => by omega)
  · skip
    refine zp_al0 (q := 1) dX12_fills_0 rfl ?_
    refine zp_al0 (q := 2) dX12_fills_1 rfl ?_
    refine zf_getG (v := 528) 22 (k517) (H.2.2.2.2.2.2.2.2.2.2) rfl fdX12_49 (q := 5) dX12_fills_2 rfl rfl ?_
    refine zp_il1 (q := 6) dX12_fills_5 rfl ?_
    refine zr_iconst (q := 7) dX12_fills_6 rfl (z_in_of rfl) ?_
    refine zr_iadd (q := 8) dX12_fills_7 rfl (fun hA hB => by unfold z_in at hA hB ⊢; omega) ?_
    refine zf_iald (v := x) (by first | assumption | exact k518 | exact k519 | exact k520 | exact k521 | exact k522 | exact k523 | exact k524 | exact k525 | exact k526 | exact k527 | exact k528 | exact k510 | exact k512 | exact k515 | exact k516 | exact k507 | exact k509 | exact k135 | exact k489 | exact k529 | exact k530) (h1) (q := 9) dX12_fills_8 rfl (by omega) (by omega) ?_
    refine zp_al0 (q := 10) dX12_fills_9 rfl ?_
    refine zf_getG (v := 528) 22 (k517) (H.2.2.2.2.2.2.2.2.2.2) rfl fdX12_49 (q := 13) dX12_fills_10 rfl rfl ?_
    refine zp_il1 (q := 14) dX12_fills_13 rfl ?_
    refine zr_iconst (q := 15) dX12_fills_14 rfl (z_in_of rfl) ?_
    refine zr_iadd (q := 16) dX12_fills_15 rfl (fun hA hB => by unfold z_in at hA hB ⊢; omega) ?_
    refine zf_iald (v := f) (by first | assumption | exact k518 | exact k519 | exact k520 | exact k521 | exact k522 | exact k523 | exact k524 | exact k525 | exact k526 | exact k527 | exact k528 | exact k510 | exact k512 | exact k515 | exact k516 | exact k507 | exact k509 | exact k135 | exact k489 | exact k529 | exact k530) (h2) (q := 17) dX12_fills_16 rfl (by omega) (by omega) ?_
    refine zf_callV2 (k517) (s_X12_addBallot_n H hG hs) mtX12_addBallot wiX12_addBallot weX12_addBallot wlX12_226 (q := 20) dX12_fills_17 rfl rfl rfl rfl rfl rfl rfl (fun r S9 M9 h8 hP => ?_) (fun k S9 M9 hP => (z_no hP.1 rfl).elim)
    obtain ⟨rfl, rfl, x1, x2⟩ := hP
    refine zp_is2 (q := 21) dX12_fills_20 rfl rfl rfl ?_
    refine zr_iconst (q := 22) dX12_fills_21 rfl (z_in_of rfl) ?_
    refine zp_is3 (q := 23) dX12_fills_22 rfl rfl rfl ?_
    exact s_X12_fills_x (x1.h H) (n := n) (by rw [x1.told]; exact hn) K0 K1 x2 ⟨_, rfl, rfl, x1, Or.inr ⟨fun ho => hs ho.1, x2⟩⟩
theorem s_X12_carries (H : zHm M) (hT : zTi8 M L) (hl : L.length ≤ 60) (K0 : 0 ≤ K) (K1 : K ≤ 29) {c : Int → Int} (hc : c = zCh9 L) (hw : 0 ≤ zWw c p ∧ zWw c p < 8) (hD : zTd M c p K) (hf : 0 ≤ zFw9 c (zq3 c p) ∧ zFw9 c (zq3 c p) < 60) (hq : 0 ≤ zq3 c p ∧ zq3 c p ≤ 60) (h5 : 0 ≤ M 517 5 ∧ M 517 5 ≤ 8) (h6 : M 517 6 ≠ 0) (hG : zWF (M 518)) :
    z_Call mX12_carries zF [(1, 517), (0, 5 * K)] M (zmX (zXo9 (M 518) c p) (gX9 (M 518) c p) M) := by
  have h8 : zWw c p = 0 ∨ zWw c p = 1 ∨ zWw c p = 2 ∨ zWw c p = 3 ∨ zWw c p = 4 ∨ zWw c p = 5 ∨ zWw c p = 6 ∨ zWw c p = 7 := by omega
  have hsp := hG.sp
  refine z_enter (k := 2) rfl rfl rfl ?_
  rcases h8 with e | e | e | e | e | e | e | e
  · rw [zXo9_0 e, gX9_0 e]
    have q0 : M 528 (5 * K) = 0 := hD.1.trans e
    refine zp_al0 (q := 1) dX12_carries_0 rfl ?_
    refine zf_getG (v := 528) 22 (k517) (H.2.2.2.2.2.2.2.2.2.2) rfl fdX12_49 (q := 4) dX12_carries_1 rfl rfl ?_
    refine zp_il1 (q := 5) dX12_carries_4 rfl ?_
    refine zr_iconst (q := 6) dX12_carries_5 rfl (z_in_of rfl) ?_
    refine zr_iadd (q := 7) dX12_carries_6 rfl (fun hA hB => by unfold z_in at hA hB ⊢; omega) ?_
    refine zf_iald (v := M 528 (5 * K + 1)) (by first | assumption | exact k518 | exact k519 | exact k520 | exact k521 | exact k522 | exact k523 | exact k524 | exact k525 | exact k526 | exact k527 | exact k528 | exact k510 | exact k512 | exact k515 | exact k516 | exact k507 | exact k509 | exact k135 | exact k489 | exact k529 | exact k530) (rfl) (q := 8) dX12_carries_7 rfl (by omega) (by omega) ?_
    refine zp_is2 (q := 9) dX12_carries_8 rfl rfl rfl ?_
    refine zp_al0 (q := 10) dX12_carries_9 rfl ?_
    refine zf_getG (v := 528) 22 (k517) (H.2.2.2.2.2.2.2.2.2.2) rfl fdX12_49 (q := 13) dX12_carries_10 rfl rfl ?_
    refine zp_il1 (q := 14) dX12_carries_13 rfl ?_
    refine zr_iconst (q := 15) dX12_carries_14 rfl (z_in_of rfl) ?_
    refine zr_iadd (q := 16) dX12_carries_15 rfl (fun hA hB => by unfold z_in at hA hB ⊢; omega) ?_
    refine zf_iald (v := M 528 (5 * K + 2)) (by first | assumption | exact k518 | exact k519 | exact k520 | exact k521 | exact k522 | exact k523 | exact k524 | exact k525 | exact k526 | exact k527 | exact k528 | exact k510 | exact k512 | exact k515 | exact k516 | exact k507 | exact k509 | exact k135 | exact k489 | exact k529 | exact k530) (rfl) (q := 17) dX12_carries_16 rfl (by omega) (by omega) ?_
    refine zp_is3 (q := 18) dX12_carries_17 rfl rfl rfl ?_
    refine zp_al0 (q := 19) dX12_carries_18 rfl ?_
    refine zf_getG (v := 528) 22 (k517) (H.2.2.2.2.2.2.2.2.2.2) rfl fdX12_49 (q := 22) dX12_carries_19 rfl rfl ?_
    refine zp_il1 (q := 23) dX12_carries_22 rfl ?_
    refine zf_iald (v := 0) (by first | assumption | exact k518 | exact k519 | exact k520 | exact k521 | exact k522 | exact k523 | exact k524 | exact k525 | exact k526 | exact k527 | exact k528 | exact k510 | exact k512 | exact k515 | exact k516 | exact k507 | exact k509 | exact k135 | exact k489 | exact k529 | exact k530) (q0) (q := 24) dX12_carries_23 rfl (by omega) (by omega) ?_
    refine zr_tableIn (q := 68) (off := 44) dX12_carries_24 (by decide) (by decide) rfl (by decide) ?_
    refine zp_al0 (q := 69) dX12_carries_68 rfl ?_
    refine zf_callV0 (k517) (s_X12_addWind_q H hG h5 h6) mtX12_addWind wiX12_addWind weX12_addWind wlX12_232 (q := 72) dX12_carries_69 rfl rfl rfl rfl rfl rfl rfl (fun r S9 M9 h8 hP => ?_) (fun k S9 M9 hP => by obtain ⟨x9, hx9, _⟩ := hP; exact (z_no hx9 rfl).elim)
    obtain ⟨y, rfl, rfl, x1, hh⟩ := hP
    refine zr_ireturn dX12_carries_72 rfl (z_fit_i _) ?_
    exact ⟨y, rfl, rfl, x1, hh⟩
  · rw [zXo9_1 e, gX9_1 e]
    have q0 : M 528 (5 * K) = 1 := hD.1.trans e
    have q1 : M 528 (5 * K + 1) = zn1 c p := hD.2.1 (by rw [e]; decide)
    refine zp_al0 (q := 1) dX12_carries_0 rfl ?_
    refine zf_getG (v := 528) 22 (k517) (H.2.2.2.2.2.2.2.2.2.2) rfl fdX12_49 (q := 4) dX12_carries_1 rfl rfl ?_
    refine zp_il1 (q := 5) dX12_carries_4 rfl ?_
    refine zr_iconst (q := 6) dX12_carries_5 rfl (z_in_of rfl) ?_
    refine zr_iadd (q := 7) dX12_carries_6 rfl (fun hA hB => by unfold z_in at hA hB ⊢; omega) ?_
    refine zf_iald (v := zn1 c p) (by first | assumption | exact k518 | exact k519 | exact k520 | exact k521 | exact k522 | exact k523 | exact k524 | exact k525 | exact k526 | exact k527 | exact k528 | exact k510 | exact k512 | exact k515 | exact k516 | exact k507 | exact k509 | exact k135 | exact k489 | exact k529 | exact k530) (q1) (q := 8) dX12_carries_7 rfl (by omega) (by omega) ?_
    refine zp_is2 (q := 9) dX12_carries_8 rfl rfl rfl ?_
    refine zp_al0 (q := 10) dX12_carries_9 rfl ?_
    refine zf_getG (v := 528) 22 (k517) (H.2.2.2.2.2.2.2.2.2.2) rfl fdX12_49 (q := 13) dX12_carries_10 rfl rfl ?_
    refine zp_il1 (q := 14) dX12_carries_13 rfl ?_
    refine zr_iconst (q := 15) dX12_carries_14 rfl (z_in_of rfl) ?_
    refine zr_iadd (q := 16) dX12_carries_15 rfl (fun hA hB => by unfold z_in at hA hB ⊢; omega) ?_
    refine zf_iald (v := M 528 (5 * K + 2)) (by first | assumption | exact k518 | exact k519 | exact k520 | exact k521 | exact k522 | exact k523 | exact k524 | exact k525 | exact k526 | exact k527 | exact k528 | exact k510 | exact k512 | exact k515 | exact k516 | exact k507 | exact k509 | exact k135 | exact k489 | exact k529 | exact k530) (rfl) (q := 17) dX12_carries_16 rfl (by omega) (by omega) ?_
    refine zp_is3 (q := 18) dX12_carries_17 rfl rfl rfl ?_
    refine zp_al0 (q := 19) dX12_carries_18 rfl ?_
    refine zf_getG (v := 528) 22 (k517) (H.2.2.2.2.2.2.2.2.2.2) rfl fdX12_49 (q := 22) dX12_carries_19 rfl rfl ?_
    refine zp_il1 (q := 23) dX12_carries_22 rfl ?_
    refine zf_iald (v := 1) (by first | assumption | exact k518 | exact k519 | exact k520 | exact k521 | exact k522 | exact k523 | exact k524 | exact k525 | exact k526 | exact k527 | exact k528 | exact k510 | exact k512 | exact k515 | exact k516 | exact k507 | exact k509 | exact k135 | exact k489 | exact k529 | exact k530) (q0) (q := 24) dX12_carries_23 rfl (by omega) (by omega) ?_
    refine zr_tableIn (q := 73) (off := 49) dX12_carries_24 (by decide) (by decide) rfl (by decide) ?_
    refine zp_al0 (q := 74) dX12_carries_73 rfl ?_
    refine zp_il2 (q := 75) dX12_carries_74 rfl ?_
    refine zf_callV1 (k517) (s_X12_withdraw_q H hG h5 h6) mtX12_withdraw wiX12_withdraw weX12_withdraw wlX12_235 (q := 78) dX12_carries_75 rfl rfl rfl rfl rfl rfl rfl (fun r S9 M9 h8 hP => ?_) (fun k S9 M9 hP => by obtain ⟨x9, hx9, _⟩ := hP; exact (z_no hx9 rfl).elim)
    obtain ⟨y, rfl, rfl, x1, hh⟩ := hP
    refine zr_ireturn dX12_carries_78 rfl (z_fit_i _) ?_
    exact ⟨y, rfl, rfl, x1, hh⟩
  · rw [zXo9_2 e, gX9_2 e]
    have q0 : M 528 (5 * K) = 2 := hD.1.trans e
    have q1 : M 528 (5 * K + 1) = zn1 c p := hD.2.1 (by rw [e]; decide)
    have q2 : M 528 (5 * K + 2) = zn2 c p := hD.2.2.1 (by rw [e]; decide)
    refine zp_al0 (q := 1) dX12_carries_0 rfl ?_
    refine zf_getG (v := 528) 22 (k517) (H.2.2.2.2.2.2.2.2.2.2) rfl fdX12_49 (q := 4) dX12_carries_1 rfl rfl ?_
    refine zp_il1 (q := 5) dX12_carries_4 rfl ?_
    refine zr_iconst (q := 6) dX12_carries_5 rfl (z_in_of rfl) ?_
    refine zr_iadd (q := 7) dX12_carries_6 rfl (fun hA hB => by unfold z_in at hA hB ⊢; omega) ?_
    refine zf_iald (v := zn1 c p) (by first | assumption | exact k518 | exact k519 | exact k520 | exact k521 | exact k522 | exact k523 | exact k524 | exact k525 | exact k526 | exact k527 | exact k528 | exact k510 | exact k512 | exact k515 | exact k516 | exact k507 | exact k509 | exact k135 | exact k489 | exact k529 | exact k530) (q1) (q := 8) dX12_carries_7 rfl (by omega) (by omega) ?_
    refine zp_is2 (q := 9) dX12_carries_8 rfl rfl rfl ?_
    refine zp_al0 (q := 10) dX12_carries_9 rfl ?_
    refine zf_getG (v := 528) 22 (k517) (H.2.2.2.2.2.2.2.2.2.2) rfl fdX12_49 (q := 13) dX12_carries_10 rfl rfl ?_
    refine zp_il1 (q := 14) dX12_carries_13 rfl ?_
    refine zr_iconst (q := 15) dX12_carries_14 rfl (z_in_of rfl) ?_
    refine zr_iadd (q := 16) dX12_carries_15 rfl (fun hA hB => by unfold z_in at hA hB ⊢; omega) ?_
    refine zf_iald (v := zn2 c p) (by first | assumption | exact k518 | exact k519 | exact k520 | exact k521 | exact k522 | exact k523 | exact k524 | exact k525 | exact k526 | exact k527 | exact k528 | exact k510 | exact k512 | exact k515 | exact k516 | exact k507 | exact k509 | exact k135 | exact k489 | exact k529 | exact k530) (q2) (q := 17) dX12_carries_16 rfl (by omega) (by omega) ?_
    refine zp_is3 (q := 18) dX12_carries_17 rfl rfl rfl ?_
    refine zp_al0 (q := 19) dX12_carries_18 rfl ?_
    refine zf_getG (v := 528) 22 (k517) (H.2.2.2.2.2.2.2.2.2.2) rfl fdX12_49 (q := 22) dX12_carries_19 rfl rfl ?_
    refine zp_il1 (q := 23) dX12_carries_22 rfl ?_
    refine zf_iald (v := 2) (by first | assumption | exact k518 | exact k519 | exact k520 | exact k521 | exact k522 | exact k523 | exact k524 | exact k525 | exact k526 | exact k527 | exact k528 | exact k510 | exact k512 | exact k515 | exact k516 | exact k507 | exact k509 | exact k135 | exact k489 | exact k529 | exact k530) (q0) (q := 24) dX12_carries_23 rfl (by omega) (by omega) ?_
    refine zr_tableIn (q := 79) (off := 55) dX12_carries_24 (by decide) (by decide) rfl (by decide) ?_
    refine zp_al0 (q := 80) dX12_carries_79 rfl ?_
    refine zp_il1 (q := 81) dX12_carries_80 rfl ?_
    refine zf_callV1 (k517) (s_X12_fills H hT hl K0 K1 q1 q2 (hD.2.2.2 e).2 (hD.2.2.2 e).1 hf hq hc (W := znw c p) (fun j j0 j1 => ⟨(zFm_in c 60 (zq3 c p) j j0 j1).2.1, rfl⟩) h5 h6 hG) mtX12_fills wiX12_fills weX12_fills wlX12_238 (q := 84) dX12_carries_81 rfl rfl rfl rfl rfl rfl rfl (fun r S9 M9 h8 hP => ?_) (fun k S9 M9 hP => by obtain ⟨x9, hx9, _⟩ := hP; exact (z_no hx9 rfl).elim)
    obtain ⟨y, rfl, rfl, x1, hh⟩ := hP
    refine zr_ireturn dX12_carries_84 rfl (z_fit_i _) ?_
    exact ⟨y, rfl, rfl, x1, hh⟩
  · rw [zXo9_3 e, gX9_3 e]
    have q0 : M 528 (5 * K) = 3 := hD.1.trans e
    have q1 : M 528 (5 * K + 1) = zn1 c p := hD.2.1 (by rw [e]; decide)
    have q2 : M 528 (5 * K + 2) = zn2 c p := hD.2.2.1 (by rw [e]; decide)
    refine zp_al0 (q := 1) dX12_carries_0 rfl ?_
    refine zf_getG (v := 528) 22 (k517) (H.2.2.2.2.2.2.2.2.2.2) rfl fdX12_49 (q := 4) dX12_carries_1 rfl rfl ?_
    refine zp_il1 (q := 5) dX12_carries_4 rfl ?_
    refine zr_iconst (q := 6) dX12_carries_5 rfl (z_in_of rfl) ?_
    refine zr_iadd (q := 7) dX12_carries_6 rfl (fun hA hB => by unfold z_in at hA hB ⊢; omega) ?_
    refine zf_iald (v := zn1 c p) (by first | assumption | exact k518 | exact k519 | exact k520 | exact k521 | exact k522 | exact k523 | exact k524 | exact k525 | exact k526 | exact k527 | exact k528 | exact k510 | exact k512 | exact k515 | exact k516 | exact k507 | exact k509 | exact k135 | exact k489 | exact k529 | exact k530) (q1) (q := 8) dX12_carries_7 rfl (by omega) (by omega) ?_
    refine zp_is2 (q := 9) dX12_carries_8 rfl rfl rfl ?_
    refine zp_al0 (q := 10) dX12_carries_9 rfl ?_
    refine zf_getG (v := 528) 22 (k517) (H.2.2.2.2.2.2.2.2.2.2) rfl fdX12_49 (q := 13) dX12_carries_10 rfl rfl ?_
    refine zp_il1 (q := 14) dX12_carries_13 rfl ?_
    refine zr_iconst (q := 15) dX12_carries_14 rfl (z_in_of rfl) ?_
    refine zr_iadd (q := 16) dX12_carries_15 rfl (fun hA hB => by unfold z_in at hA hB ⊢; omega) ?_
    refine zf_iald (v := zn2 c p) (by first | assumption | exact k518 | exact k519 | exact k520 | exact k521 | exact k522 | exact k523 | exact k524 | exact k525 | exact k526 | exact k527 | exact k528 | exact k510 | exact k512 | exact k515 | exact k516 | exact k507 | exact k509 | exact k135 | exact k489 | exact k529 | exact k530) (q2) (q := 17) dX12_carries_16 rfl (by omega) (by omega) ?_
    refine zp_is3 (q := 18) dX12_carries_17 rfl rfl rfl ?_
    refine zp_al0 (q := 19) dX12_carries_18 rfl ?_
    refine zf_getG (v := 528) 22 (k517) (H.2.2.2.2.2.2.2.2.2.2) rfl fdX12_49 (q := 22) dX12_carries_19 rfl rfl ?_
    refine zp_il1 (q := 23) dX12_carries_22 rfl ?_
    refine zf_iald (v := 3) (by first | assumption | exact k518 | exact k519 | exact k520 | exact k521 | exact k522 | exact k523 | exact k524 | exact k525 | exact k526 | exact k527 | exact k528 | exact k510 | exact k512 | exact k515 | exact k516 | exact k507 | exact k509 | exact k135 | exact k489 | exact k529 | exact k530) (q0) (q := 24) dX12_carries_23 rfl (by omega) (by omega) ?_
    refine zr_tableIn (q := 85) (off := 61) dX12_carries_24 (by decide) (by decide) rfl (by decide) ?_
    refine zp_al0 (q := 86) dX12_carries_85 rfl ?_
    refine zp_il2 (q := 87) dX12_carries_86 rfl ?_
    refine zp_il3 (q := 88) dX12_carries_87 rfl ?_
    refine zf_callV2 (k517) (s_X12_rank_q H hG h5 h6) mtX12_rank wiX12_rank weX12_rank wlX12_229 (q := 91) dX12_carries_88 rfl rfl rfl rfl rfl rfl rfl (fun r S9 M9 h8 hP => ?_) (fun k S9 M9 hP => by obtain ⟨x9, hx9, _⟩ := hP; exact (z_no hx9 rfl).elim)
    obtain ⟨y, rfl, rfl, x1, hh⟩ := hP
    refine zr_ireturn dX12_carries_91 rfl (z_fit_i _) ?_
    exact ⟨y, rfl, rfl, x1, hh⟩
  · rw [zXo9_4 e, gX9_4 e]
    have q0 : M 528 (5 * K) = 4 := hD.1.trans e
    have q1 : M 528 (5 * K + 1) = zn1 c p := hD.2.1 (by rw [e]; decide)
    refine zp_al0 (q := 1) dX12_carries_0 rfl ?_
    refine zf_getG (v := 528) 22 (k517) (H.2.2.2.2.2.2.2.2.2.2) rfl fdX12_49 (q := 4) dX12_carries_1 rfl rfl ?_
    refine zp_il1 (q := 5) dX12_carries_4 rfl ?_
    refine zr_iconst (q := 6) dX12_carries_5 rfl (z_in_of rfl) ?_
    refine zr_iadd (q := 7) dX12_carries_6 rfl (fun hA hB => by unfold z_in at hA hB ⊢; omega) ?_
    refine zf_iald (v := zn1 c p) (by first | assumption | exact k518 | exact k519 | exact k520 | exact k521 | exact k522 | exact k523 | exact k524 | exact k525 | exact k526 | exact k527 | exact k528 | exact k510 | exact k512 | exact k515 | exact k516 | exact k507 | exact k509 | exact k135 | exact k489 | exact k529 | exact k530) (q1) (q := 8) dX12_carries_7 rfl (by omega) (by omega) ?_
    refine zp_is2 (q := 9) dX12_carries_8 rfl rfl rfl ?_
    refine zp_al0 (q := 10) dX12_carries_9 rfl ?_
    refine zf_getG (v := 528) 22 (k517) (H.2.2.2.2.2.2.2.2.2.2) rfl fdX12_49 (q := 13) dX12_carries_10 rfl rfl ?_
    refine zp_il1 (q := 14) dX12_carries_13 rfl ?_
    refine zr_iconst (q := 15) dX12_carries_14 rfl (z_in_of rfl) ?_
    refine zr_iadd (q := 16) dX12_carries_15 rfl (fun hA hB => by unfold z_in at hA hB ⊢; omega) ?_
    refine zf_iald (v := M 528 (5 * K + 2)) (by first | assumption | exact k518 | exact k519 | exact k520 | exact k521 | exact k522 | exact k523 | exact k524 | exact k525 | exact k526 | exact k527 | exact k528 | exact k510 | exact k512 | exact k515 | exact k516 | exact k507 | exact k509 | exact k135 | exact k489 | exact k529 | exact k530) (rfl) (q := 17) dX12_carries_16 rfl (by omega) (by omega) ?_
    refine zp_is3 (q := 18) dX12_carries_17 rfl rfl rfl ?_
    refine zp_al0 (q := 19) dX12_carries_18 rfl ?_
    refine zf_getG (v := 528) 22 (k517) (H.2.2.2.2.2.2.2.2.2.2) rfl fdX12_49 (q := 22) dX12_carries_19 rfl rfl ?_
    refine zp_il1 (q := 23) dX12_carries_22 rfl ?_
    refine zf_iald (v := 4) (by first | assumption | exact k518 | exact k519 | exact k520 | exact k521 | exact k522 | exact k523 | exact k524 | exact k525 | exact k526 | exact k527 | exact k528 | exact k510 | exact k512 | exact k515 | exact k516 | exact k507 | exact k509 | exact k135 | exact k489 | exact k529 | exact k530) (q0) (q := 24) dX12_carries_23 rfl (by omega) (by omega) ?_
    refine zr_tableIn (q := 92) (off := 68) dX12_carries_24 (by decide) (by decide) rfl (by decide) ?_
    refine zp_al0 (q := 93) dX12_carries_92 rfl ?_
    refine zp_il2 (q := 94) dX12_carries_93 rfl ?_
    refine zf_callV1 (k517) (s_X12_removeBallot_q H hG h5 h6) mtX12_removeBallot wiX12_removeBallot weX12_removeBallot wlX12_241 (q := 97) dX12_carries_94 rfl rfl rfl rfl rfl rfl rfl (fun r S9 M9 h8 hP => ?_) (fun k S9 M9 hP => by obtain ⟨x9, hx9, _⟩ := hP; exact (z_no hx9 rfl).elim)
    obtain ⟨y, rfl, rfl, x1, hh⟩ := hP
    refine zr_ireturn dX12_carries_97 rfl (z_fit_i _) ?_
    exact ⟨y, rfl, rfl, x1, hh⟩
  · rw [zXo9_5 e, gX9_5 e]
    have q0 : M 528 (5 * K) = 5 := hD.1.trans e
    have q1 : M 528 (5 * K + 1) = zn1 c p := hD.2.1 (by rw [e]; decide)
    have q2 : M 528 (5 * K + 2) = zn2 c p := hD.2.2.1 (by rw [e]; decide)
    refine zp_al0 (q := 1) dX12_carries_0 rfl ?_
    refine zf_getG (v := 528) 22 (k517) (H.2.2.2.2.2.2.2.2.2.2) rfl fdX12_49 (q := 4) dX12_carries_1 rfl rfl ?_
    refine zp_il1 (q := 5) dX12_carries_4 rfl ?_
    refine zr_iconst (q := 6) dX12_carries_5 rfl (z_in_of rfl) ?_
    refine zr_iadd (q := 7) dX12_carries_6 rfl (fun hA hB => by unfold z_in at hA hB ⊢; omega) ?_
    refine zf_iald (v := zn1 c p) (by first | assumption | exact k518 | exact k519 | exact k520 | exact k521 | exact k522 | exact k523 | exact k524 | exact k525 | exact k526 | exact k527 | exact k528 | exact k510 | exact k512 | exact k515 | exact k516 | exact k507 | exact k509 | exact k135 | exact k489 | exact k529 | exact k530) (q1) (q := 8) dX12_carries_7 rfl (by omega) (by omega) ?_
    refine zp_is2 (q := 9) dX12_carries_8 rfl rfl rfl ?_
    refine zp_al0 (q := 10) dX12_carries_9 rfl ?_
    refine zf_getG (v := 528) 22 (k517) (H.2.2.2.2.2.2.2.2.2.2) rfl fdX12_49 (q := 13) dX12_carries_10 rfl rfl ?_
    refine zp_il1 (q := 14) dX12_carries_13 rfl ?_
    refine zr_iconst (q := 15) dX12_carries_14 rfl (z_in_of rfl) ?_
    refine zr_iadd (q := 16) dX12_carries_15 rfl (fun hA hB => by unfold z_in at hA hB ⊢; omega) ?_
    refine zf_iald (v := zn2 c p) (by first | assumption | exact k518 | exact k519 | exact k520 | exact k521 | exact k522 | exact k523 | exact k524 | exact k525 | exact k526 | exact k527 | exact k528 | exact k510 | exact k512 | exact k515 | exact k516 | exact k507 | exact k509 | exact k135 | exact k489 | exact k529 | exact k530) (q2) (q := 17) dX12_carries_16 rfl (by omega) (by omega) ?_
    refine zp_is3 (q := 18) dX12_carries_17 rfl rfl rfl ?_
    refine zp_al0 (q := 19) dX12_carries_18 rfl ?_
    refine zf_getG (v := 528) 22 (k517) (H.2.2.2.2.2.2.2.2.2.2) rfl fdX12_49 (q := 22) dX12_carries_19 rfl rfl ?_
    refine zp_il1 (q := 23) dX12_carries_22 rfl ?_
    refine zf_iald (v := 5) (by first | assumption | exact k518 | exact k519 | exact k520 | exact k521 | exact k522 | exact k523 | exact k524 | exact k525 | exact k526 | exact k527 | exact k528 | exact k510 | exact k512 | exact k515 | exact k516 | exact k507 | exact k509 | exact k135 | exact k489 | exact k529 | exact k530) (q0) (q := 24) dX12_carries_23 rfl (by omega) (by omega) ?_
    refine zr_tableIn (q := 98) (off := 74) dX12_carries_24 (by decide) (by decide) rfl (by decide) ?_
    refine zp_al0 (q := 99) dX12_carries_98 rfl ?_
    refine zp_il2 (q := 100) dX12_carries_99 rfl ?_
    refine zp_il3 (q := 101) dX12_carries_100 rfl ?_
    refine zf_callV2 (k517) (s_X12_recount_q H hG h5 h6) mtX12_recount wiX12_recount weX12_recount wlX12_244 (q := 104) dX12_carries_101 rfl rfl rfl rfl rfl rfl rfl (fun r S9 M9 h8 hP => ?_) (fun k S9 M9 hP => by obtain ⟨x9, hx9, _⟩ := hP; exact (z_no hx9 rfl).elim)
    obtain ⟨y, rfl, rfl, x1, hh⟩ := hP
    refine zr_ireturn dX12_carries_104 rfl (z_fit_i _) ?_
    exact ⟨y, rfl, rfl, x1, hh⟩
  · rw [zXo9_6 e, gX9_6 e]
    have q0 : M 528 (5 * K) = 6 := hD.1.trans e
    refine zp_al0 (q := 1) dX12_carries_0 rfl ?_
    refine zf_getG (v := 528) 22 (k517) (H.2.2.2.2.2.2.2.2.2.2) rfl fdX12_49 (q := 4) dX12_carries_1 rfl rfl ?_
    refine zp_il1 (q := 5) dX12_carries_4 rfl ?_
    refine zr_iconst (q := 6) dX12_carries_5 rfl (z_in_of rfl) ?_
    refine zr_iadd (q := 7) dX12_carries_6 rfl (fun hA hB => by unfold z_in at hA hB ⊢; omega) ?_
    refine zf_iald (v := M 528 (5 * K + 1)) (by first | assumption | exact k518 | exact k519 | exact k520 | exact k521 | exact k522 | exact k523 | exact k524 | exact k525 | exact k526 | exact k527 | exact k528 | exact k510 | exact k512 | exact k515 | exact k516 | exact k507 | exact k509 | exact k135 | exact k489 | exact k529 | exact k530) (rfl) (q := 8) dX12_carries_7 rfl (by omega) (by omega) ?_
    refine zp_is2 (q := 9) dX12_carries_8 rfl rfl rfl ?_
    refine zp_al0 (q := 10) dX12_carries_9 rfl ?_
    refine zf_getG (v := 528) 22 (k517) (H.2.2.2.2.2.2.2.2.2.2) rfl fdX12_49 (q := 13) dX12_carries_10 rfl rfl ?_
    refine zp_il1 (q := 14) dX12_carries_13 rfl ?_
    refine zr_iconst (q := 15) dX12_carries_14 rfl (z_in_of rfl) ?_
    refine zr_iadd (q := 16) dX12_carries_15 rfl (fun hA hB => by unfold z_in at hA hB ⊢; omega) ?_
    refine zf_iald (v := M 528 (5 * K + 2)) (by first | assumption | exact k518 | exact k519 | exact k520 | exact k521 | exact k522 | exact k523 | exact k524 | exact k525 | exact k526 | exact k527 | exact k528 | exact k510 | exact k512 | exact k515 | exact k516 | exact k507 | exact k509 | exact k135 | exact k489 | exact k529 | exact k530) (rfl) (q := 17) dX12_carries_16 rfl (by omega) (by omega) ?_
    refine zp_is3 (q := 18) dX12_carries_17 rfl rfl rfl ?_
    refine zp_al0 (q := 19) dX12_carries_18 rfl ?_
    refine zf_getG (v := 528) 22 (k517) (H.2.2.2.2.2.2.2.2.2.2) rfl fdX12_49 (q := 22) dX12_carries_19 rfl rfl ?_
    refine zp_il1 (q := 23) dX12_carries_22 rfl ?_
    refine zf_iald (v := 6) (by first | assumption | exact k518 | exact k519 | exact k520 | exact k521 | exact k522 | exact k523 | exact k524 | exact k525 | exact k526 | exact k527 | exact k528 | exact k510 | exact k512 | exact k515 | exact k516 | exact k507 | exact k509 | exact k135 | exact k489 | exact k529 | exact k530) (q0) (q := 24) dX12_carries_23 rfl (by omega) (by omega) ?_
    refine zr_tableIn (q := 105) (off := 81) dX12_carries_24 (by decide) (by decide) rfl (by decide) ?_
    refine zp_al0 (q := 106) dX12_carries_105 rfl ?_
    refine zf_callV0 (k517) (zmX_y (cond := True) trivial h6 (s_X12_spin H hG h5)) mtX12_spin wiX12_spin weX12_spin wlX12_247 (q := 109) dX12_carries_106 rfl rfl rfl rfl rfl rfl rfl (fun r S9 M9 h8 hP => ?_) (fun k S9 M9 hP => by obtain ⟨x9, hx9, _⟩ := hP; exact (z_no hx9 rfl).elim)
    obtain ⟨y, rfl, rfl, x1, hh⟩ := hP
    refine zr_ireturn dX12_carries_109 rfl (z_fit_i _) ?_
    exact ⟨y, rfl, rfl, x1, hh⟩
  · rw [zXo9_7 e, gX9_7 e]
    have q0 : M 528 (5 * K) = 7 := hD.1.trans e
    refine zp_al0 (q := 1) dX12_carries_0 rfl ?_
    refine zf_getG (v := 528) 22 (k517) (H.2.2.2.2.2.2.2.2.2.2) rfl fdX12_49 (q := 4) dX12_carries_1 rfl rfl ?_
    refine zp_il1 (q := 5) dX12_carries_4 rfl ?_
    refine zr_iconst (q := 6) dX12_carries_5 rfl (z_in_of rfl) ?_
    refine zr_iadd (q := 7) dX12_carries_6 rfl (fun hA hB => by unfold z_in at hA hB ⊢; omega) ?_
    refine zf_iald (v := M 528 (5 * K + 1)) (by first | assumption | exact k518 | exact k519 | exact k520 | exact k521 | exact k522 | exact k523 | exact k524 | exact k525 | exact k526 | exact k527 | exact k528 | exact k510 | exact k512 | exact k515 | exact k516 | exact k507 | exact k509 | exact k135 | exact k489 | exact k529 | exact k530) (rfl) (q := 8) dX12_carries_7 rfl (by omega) (by omega) ?_
    refine zp_is2 (q := 9) dX12_carries_8 rfl rfl rfl ?_
    refine zp_al0 (q := 10) dX12_carries_9 rfl ?_
    refine zf_getG (v := 528) 22 (k517) (H.2.2.2.2.2.2.2.2.2.2) rfl fdX12_49 (q := 13) dX12_carries_10 rfl rfl ?_
    refine zp_il1 (q := 14) dX12_carries_13 rfl ?_
    refine zr_iconst (q := 15) dX12_carries_14 rfl (z_in_of rfl) ?_
    refine zr_iadd (q := 16) dX12_carries_15 rfl (fun hA hB => by unfold z_in at hA hB ⊢; omega) ?_
    refine zf_iald (v := M 528 (5 * K + 2)) (by first | assumption | exact k518 | exact k519 | exact k520 | exact k521 | exact k522 | exact k523 | exact k524 | exact k525 | exact k526 | exact k527 | exact k528 | exact k510 | exact k512 | exact k515 | exact k516 | exact k507 | exact k509 | exact k135 | exact k489 | exact k529 | exact k530) (rfl) (q := 17) dX12_carries_16 rfl (by omega) (by omega) ?_
    refine zp_is3 (q := 18) dX12_carries_17 rfl rfl rfl ?_
    refine zp_al0 (q := 19) dX12_carries_18 rfl ?_
    refine zf_getG (v := 528) 22 (k517) (H.2.2.2.2.2.2.2.2.2.2) rfl fdX12_49 (q := 22) dX12_carries_19 rfl rfl ?_
    refine zp_il1 (q := 23) dX12_carries_22 rfl ?_
    refine zf_iald (v := 7) (by first | assumption | exact k518 | exact k519 | exact k520 | exact k521 | exact k522 | exact k523 | exact k524 | exact k525 | exact k526 | exact k527 | exact k528 | exact k510 | exact k512 | exact k515 | exact k516 | exact k507 | exact k509 | exact k135 | exact k489 | exact k529 | exact k530) (q0) (q := 24) dX12_carries_23 rfl (by omega) (by omega) ?_
    refine zr_tableOut (q := 110) dX12_carries_24 (by decide) (by decide) ?_
    refine zp_al0 (q := 111) dX12_carries_110 rfl ?_
    refine zf_callV0 (k517) (s_X12_certify_q H hG h5 h6) mtX12_certify wiX12_certify weX12_certify wlX12_250 (q := 114) dX12_carries_111 rfl rfl rfl rfl rfl rfl rfl (fun r S9 M9 h8 hP => ?_) (fun k S9 M9 hP => by obtain ⟨x9, hx9, _⟩ := hP; exact (z_no hx9 rfl).elim)
    obtain ⟨y, rfl, rfl, x1, hh⟩ := hP
    refine zr_ireturn dX12_carries_114 rfl (z_fit_i _) ?_
    exact ⟨y, rfl, rfl, x1, hh⟩
end ZXR
