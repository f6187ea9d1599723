/-! dep: 60 61 62 -/
/-! ===== the reference: lines and typed signs ===== -/
def zTy (M : zM) (L : List Int) : Prop := M 517 13 = L.length ∧ ∀ i : Nat, i < L.length → M 523 i = L.getD i 0
def zTi9 (M : zM) (L : List Int) : Prop := M 517 9 = L.length ∧ ∀ i : Nat, i < L.length → M 522 i = L.getD i 0
/-- only the signs have changed -/
def zSg (M M' : zM) : Prop := (∀ z, z ≠ 517 → z ≠ 523 → M' z = M z) ∧ ∀ j, j ≠ 13 → M' 517 j = M 517 j
section ZRT
variable {M : zM} {L : List Int}
theorem zSg.h {M' : zM} (h : zSg M M') (H : zHm M) : zHm M' := by
  unfold zHm at H ⊢
  rw [h.2 0 (by decide), h.2 1 (by decide), h.2 2 (by decide), h.2 3 (by decide), h.2 8 (by decide), h.2 12 (by decide), h.2 14 (by decide), h.2 15 (by decide), h.2 16 (by decide), h.2 17 (by decide), h.2 22 (by decide)]
  exact H
theorem zSg.t {M1 M2 : zM} (h : zSg M M1) (h2 : zSg M1 M2) : zSg M M2 := ⟨fun z a b => (h2.1 z a b).trans (h.1 z a b), fun j a => (h2.2 j a).trans (h.2 j a)⟩
theorem s_X12_writes (H : zHm M) (h : zTy M L) (hl : L.length < 60) {x : Int} (hx : 0 ≤ x ∧ x < 65536) : z_Call mX12_writes zF [(1, 517), (0, x)] M (fun r S' M' => r = (9, 0) ∧ S' = zF ∧ zTy M' (L ++ [x]) ∧ zSg M M') := by
  refine z_enter (k := 0) rfl rfl rfl ?_
  refine zp_al0 (q := 1) dX12_writes_0 rfl ?_
  refine zf_getG (v := 523) 12 (k517) (H.2.2.2.2.2.1) rfl fdX12_32 (q := 4) dX12_writes_1 rfl rfl ?_
  refine zp_al0 (q := 5) dX12_writes_4 rfl ?_
  refine zf_getG (v := L.length) 13 (k517) (h.1) rfl fdX12_158 (q := 8) dX12_writes_5 rfl rfl ?_
  refine zp_il1 (q := 9) dX12_writes_8 rfl ?_
  refine zr_i2c (q := 10) dX12_writes_9 rfl ?_
  rw [show x % 65536 = x by omega]
  refine zf_cast (by first | assumption | exact k518 | exact k519 | exact k520 | exact k521 | exact k522 | exact k523 | exact k524 | exact k525 | exact k526 | exact k527 | exact k528 | exact k510 | exact k512 | exact k515 | exact k516 | exact k507 | exact k509 | exact k135 | exact k489 | exact k529 | exact k530) (q := 11) dX12_writes_10 rfl (by omega) (by omega) (by omega) (by omega) ?_
  refine zp_al0 (q := 12) dX12_writes_11 rfl ?_
  refine zr_dup (q := 13) dX12_writes_12 rfl (Or.inr rfl) ?_
  refine zf_getG (v := L.length) 13 (k517) (by rw [z_up_ne (by decide)]; exact h.1) rfl fdX12_158 (q := 16) dX12_writes_13 rfl rfl ?_
  refine zr_iconst (q := 17) dX12_writes_16 rfl (z_in_of rfl) ?_
  refine zr_iadd (q := 18) dX12_writes_17 rfl (fun hA hB => by unfold z_in at hA hB ⊢; omega) ?_
  refine zf_putG 13 (k517) rfl fpX12_158 (q := 21) dX12_writes_18 rfl rfl (by decide) (z_fit_i _) ?_
  refine zr_return dX12_writes_21 rfl ?_
  refine ⟨rfl, rfl, ⟨by rw [z_up_eq, List.length_append]; rfl, fun i hi => ?_⟩, fun z a b => by rw [z_up_ne a, z_up_ne b], fun j a => by rw [z_up_sl a, z_up_ne (by decide)]⟩
  rw [List.length_append] at hi
  rw [z_up_ne (by decide)]
  by_cases e : i = L.length
  · rw [e, z_up_eq, zg_2]
  · have hi2 : i < L.length := by
      have : i < L.length + 1 := hi
      omega
    rw [z_up_sl (by omega), zg_1 hi2]
    exact h.2 i hi2
theorem s_X12_writesNumber (H : zHm M) (h : zTy M L) (hl : L.length < 58) {n : Int} (hn : 0 ≤ n ∧ n < 100) : z_Call mX12_writesNumber zF [(1, 517), (0, n)] M (fun r S' M' => r = (9, 0) ∧ S' = zF ∧ zTy M' (L ++ zDg n) ∧ zSg M M') := by
  refine z_enter (k := 0) rfl rfl rfl ?_
  refine zp_il1 (q := 1) dX12_writesNumber_0 rfl ?_
  refine zr_bipush (q := 3) dX12_writesNumber_1 rfl (z_in_of rfl) (by decide +kernel) ?_
  refine zr_icmp_le (q := 17) (q2 := 6) dX12_writesNumber_3 (by decide) rfl (fun h3 => ?_) (fun h3 => ?_)
  · refine zp_al0 (q := 18) dX12_writesNumber_17 rfl ?_
    refine zr_bipush (q := 20) dX12_writesNumber_18 rfl (z_in_of rfl) (by decide +kernel) ?_
    refine zp_il1 (q := 21) dX12_writesNumber_20 rfl ?_
    refine zr_bipush (q := 23) dX12_writesNumber_21 rfl (z_in_of rfl) (by decide +kernel) ?_
    refine zr_irem (q := 24) dX12_writesNumber_23 rfl (by omega) (by omega) ?_
    refine zr_iadd (q := 25) dX12_writesNumber_24 rfl (fun hA hB => by unfold z_in at hA hB ⊢; omega) ?_
    first
    | have sA := s_X12_writes (x := 48 + n % 10) (x2.h H) x1 (by rw [List.length_append]; show L.length + 1 < 60; omega) (by omega)
    | have sA := s_X12_writes (x := 48 + n % 10) H h (by omega) (by omega)
    refine zf_callV1 (k517) (sA) mtX12_writes wiX12_writes weX12_writes wlX12_161 (q := 28) dX12_writesNumber_25 rfl rfl rfl rfl rfl rfl rfl (fun r S9 M9 h8 hP => ?_) (fun k S9 M9 hP => (z_no hP.1 rfl).elim)
    obtain ⟨rfl, rfl, y1, y2⟩ := hP
    refine zr_return dX12_writesNumber_28 rfl ?_
    first
    | (have t10 : 10 ≤ n := by omega
       have e : L ++ zDg n = L ++ [48 + n / 10] ++ [48 + n % 10] := by unfold zDg; rw [if_pos t10, List.append_assoc]; rfl
       exact ⟨rfl, rfl, by rw [e]; exact y1, x2.t y2⟩)
    | (have e : zDg n = [48 + n % 10] := by unfold zDg; rw [if_neg (by omega)]
       exact ⟨rfl, rfl, by rw [e]; exact y1, y2⟩)
  · refine zp_al0 (q := 7) dX12_writesNumber_6 rfl ?_
    refine zr_bipush (q := 9) dX12_writesNumber_7 rfl (z_in_of rfl) (by decide +kernel) ?_
    refine zp_il1 (q := 10) dX12_writesNumber_9 rfl ?_
    refine zr_bipush (q := 12) dX12_writesNumber_10 rfl (z_in_of rfl) (by decide +kernel) ?_
    refine zr_idiv (q := 13) dX12_writesNumber_12 rfl (by omega) (by omega) ?_
    refine zr_iadd (q := 14) dX12_writesNumber_13 rfl (fun hA hB => by unfold z_in at hA hB ⊢; omega) ?_
    refine zf_callV1 (k517) (s_X12_writes H h (by omega) (by omega)) mtX12_writes wiX12_writes weX12_writes wlX12_161 (q := 17) dX12_writesNumber_14 rfl rfl rfl rfl rfl rfl rfl (fun r S9 M9 h8 hP => ?_) (fun k S9 M9 hP => (z_no hP.1 rfl).elim)
    obtain ⟨rfl, rfl, x1, x2⟩ := hP
    refine zp_al0 (q := 18) dX12_writesNumber_17 rfl ?_
    refine zr_bipush (q := 20) dX12_writesNumber_18 rfl (z_in_of rfl) (by decide +kernel) ?_
    refine zp_il1 (q := 21) dX12_writesNumber_20 rfl ?_
    refine zr_bipush (q := 23) dX12_writesNumber_21 rfl (z_in_of rfl) (by decide +kernel) ?_
    refine zr_irem (q := 24) dX12_writesNumber_23 rfl (by omega) (by omega) ?_
    refine zr_iadd (q := 25) dX12_writesNumber_24 rfl (fun hA hB => by unfold z_in at hA hB ⊢; omega) ?_
    first
    | have sA := s_X12_writes (x := 48 + n % 10) (x2.h H) x1 (by rw [List.length_append]; show L.length + 1 < 60; omega) (by omega)
    | have sA := s_X12_writes (x := 48 + n % 10) H h (by omega) (by omega)
    refine zf_callV1 (k517) (sA) mtX12_writes wiX12_writes weX12_writes wlX12_161 (q := 28) dX12_writesNumber_25 rfl rfl rfl rfl rfl rfl rfl (fun r S9 M9 h8 hP => ?_) (fun k S9 M9 hP => (z_no hP.1 rfl).elim)
    obtain ⟨rfl, rfl, y1, y2⟩ := hP
    refine zr_return dX12_writesNumber_28 rfl ?_
    first
    | (have t10 : 10 ≤ n := by omega
       have e : L ++ zDg n = L ++ [48 + n / 10] ++ [48 + n % 10] := by unfold zDg; rw [if_pos t10, List.append_assoc]; rfl
       exact ⟨rfl, rfl, by rw [e]; exact y1, x2.t y2⟩)
    | (have e : zDg n = [48 + n % 10] := by unfold zDg; rw [if_neg (by omega)]
       exact ⟨rfl, rfl, by rw [e]; exact y1, y2⟩)
theorem s_X12_writeBallot_l (H : zHm M) (hG : zWF (M 518)) {b : Int} (hb : 0 ≤ b ∧ b < M 518 1) {bc bs : Nat} {Q : zV → zS → zM → Prop} (hQ : ∀ M', zSg M M' → zTy M' (zTbk (M 518) b (M 518 (20 + 7 * b + 1))) → Q (0, ((zTbk (M 518) b (M 518 (20 + 7 * b + 1))).length : Int)) zF M') : ∀ (m : Nat) (k : Int) (M' : zM), 0 ≤ k → k ≤ M 518 (20 + 7 * b + 1) → M 518 (20 + 7 * b + 1) - k < m → zSg M M' → zTy M' (zTbk (M 518) b k) →
    z_Ex mX12_writeBallot zF 39 [(1, 517), (0, b), (0, k)] [] M' bc bs Q := by
  have hn := hG.n
  have hz := hG.sz hb.1 hb.2
  intro m
  induction m with
  | zero => intro k M' a1 a2 a3; omega
  | succ m ih =>
    intro k M' a1 a2 a3 hI hX
    have H' := hI.h H
    have e8 : M' 518 = M 518 := hI.1 518 (by decide) (by decide)
    have hlen := zTbk_len (G := M 518) (b := b) a1
    have hs := zTbk_s (G := M 518) (b := b) a1
    refine zp_il2 (q := 40) dX12_writeBallot_39 rfl ?_
    refine zp_al0 (q := 41) dX12_writeBallot_40 rfl ?_
    refine zp_il1 (q := 42) dX12_writeBallot_41 rfl ?_
    refine zr_iconst (q := 43) dX12_writeBallot_42 rfl (z_in_of rfl) ?_
    refine zf_callV2 (k517) (s_X12_of H' hb.1 (by omega) (by omega) (by omega)) mtX12_of wiX12_of weX12_of wlX12_91 (q := 46) dX12_writeBallot_43 rfl rfl rfl rfl rfl rfl rfl (fun r S9 M9 h8 hP => ?_) (fun k S9 M9 hP => (z_no hP.1 rfl).elim)
    obtain ⟨rfl, rfl, h9⟩ := hP
    subst M9
    rw [e8]
    refine zr_icmp_ge (q := 77) (q2 := 49) dX12_writeBallot_46 (by decide) rfl (fun h46 => ?_) (fun h46 => ?_)
    · refine zp_al0 (q := 78) dX12_writeBallot_77 rfl ?_
      refine zf_getG (v := (zTbk (M 518) b k).length) 13 (k517) (hX.1) rfl fdX12_158 (q := 81) dX12_writeBallot_78 rfl rfl ?_
      refine zr_ireturn dX12_writeBallot_81 rfl (z_fit_i _) ?_
      have e : k = M 518 (20 + 7 * b + 1) := by omega
      subst e
      exact hQ M' hI hX
    · have hk := hG.rk hb.1 hb.2 k a1 (by omega)
      have hg := hG.w
      refine zp_il2 (q := 50) dX12_writeBallot_49 rfl ?_
      refine zr_if_le (q := 59) (q2 := 53) dX12_writeBallot_50 (by decide) rfl (fun h50 => ?_) (fun h50 => ?_)
      · refine zp_al0 (q := 60) dX12_writeBallot_59 rfl ?_
        refine zp_al0 (q := 61) dX12_writeBallot_60 rfl ?_
        refine zp_il1 (q := 62) dX12_writeBallot_61 rfl ?_
        refine zr_iconst (q := 63) dX12_writeBallot_62 rfl (z_in_of rfl) ?_
        refine zp_il2 (q := 64) dX12_writeBallot_63 rfl ?_
        refine zr_iadd (q := 65) dX12_writeBallot_64 rfl (fun hA hB => by unfold z_in at hA hB ⊢; omega) ?_
        first
        | have sO := s_X12_of (w := 2 + k) (x2.h H') hb.1 (by omega) (by omega) (by omega)
        | have sO := s_X12_of (w := 2 + k) H' hb.1 (by omega) (by omega) (by omega)
        refine zf_callV2 (k517) (sO) mtX12_of wiX12_of weX12_of wlX12_91 (q := 68) dX12_writeBallot_65 rfl rfl rfl rfl rfl rfl rfl (fun r S9 M9 h8 hP => ?_) (fun k S9 M9 hP => (z_no hP.1 rfl).elim)
        obtain ⟨rfl, rfl, h9⟩ := hP
        subst M9
        first | rw [x2.1 518 (by decide) (by decide), e8, show 20 + 7 * b + (2 + k) = 20 + 7 * b + 2 + k by omega] | rw [e8, show 20 + 7 * b + (2 + k) = 20 + 7 * b + 2 + k by omega]
        first
        | have sA := s_X12_writesNumber (n := M 518 (20 + 7 * b + 2 + k)) (x2.h H') x1 (by omega) (by omega)
        | have sA := s_X12_writesNumber (n := M 518 (20 + 7 * b + 2 + k)) H' hX (by omega) (by omega)
        refine zf_callV1 (k517) (sA) mtX12_writesNumber wiX12_writesNumber weX12_writesNumber wlX12_164 (q := 71) dX12_writeBallot_68 rfl rfl rfl rfl rfl rfl rfl (fun r S9 M9 h8 hP => ?_) (fun k S9 M9 hP => (z_no hP.1 rfl).elim)
        obtain ⟨rfl, rfl, y1, y2⟩ := hP
        refine zp_inc2 (q := 74) dX12_writeBallot_71 rfl rfl rfl (fun hA => by unfold z_in at hA ⊢; omega) ?_
        refine zr_goto (q := 39) dX12_writeBallot_74 (by decide) ?_
        first
        | (have t0 : k = 0 := by omega
           rw [if_pos t0] at hs
           exact ih (k + 1) M9 (by omega) (by omega) (by omega) (hI.t y2) (by rw [hs]; exact y1))
        | (rw [if_neg (by omega)] at hs
           exact ih (k + 1) M9 (by omega) (by omega) (by omega) ((hI.t x2).t y2) (by rw [hs]; exact y1))
      · refine zp_al0 (q := 54) dX12_writeBallot_53 rfl ?_
        refine zr_bipush (q := 56) dX12_writeBallot_54 rfl (z_in_of rfl) (by decide +kernel) ?_
        refine zf_callV1 (k517) (s_X12_writes H' hX (by omega) (by omega)) mtX12_writes wiX12_writes weX12_writes wlX12_161 (q := 59) dX12_writeBallot_56 rfl rfl rfl rfl rfl rfl rfl (fun r S9 M9 h8 hP => ?_) (fun k S9 M9 hP => (z_no hP.1 rfl).elim)
        obtain ⟨rfl, rfl, x1, x2⟩ := hP
        have hlA : (zTbk (M 518) b k ++ [62]).length = (zTbk (M 518) b k).length + 1 := by rw [List.length_append]; rfl
        refine zp_al0 (q := 60) dX12_writeBallot_59 rfl ?_
        refine zp_al0 (q := 61) dX12_writeBallot_60 rfl ?_
        refine zp_il1 (q := 62) dX12_writeBallot_61 rfl ?_
        refine zr_iconst (q := 63) dX12_writeBallot_62 rfl (z_in_of rfl) ?_
        refine zp_il2 (q := 64) dX12_writeBallot_63 rfl ?_
        refine zr_iadd (q := 65) dX12_writeBallot_64 rfl (fun hA hB => by unfold z_in at hA hB ⊢; omega) ?_
        first
        | have sO := s_X12_of (w := 2 + k) (x2.h H') hb.1 (by omega) (by omega) (by omega)
        | have sO := s_X12_of (w := 2 + k) H' hb.1 (by omega) (by omega) (by omega)
        refine zf_callV2 (k517) (sO) mtX12_of wiX12_of weX12_of wlX12_91 (q := 68) dX12_writeBallot_65 rfl rfl rfl rfl rfl rfl rfl (fun r S9 M9 h8 hP => ?_) (fun k S9 M9 hP => (z_no hP.1 rfl).elim)
        obtain ⟨rfl, rfl, h9⟩ := hP
        subst M9
        first | rw [x2.1 518 (by decide) (by decide), e8, show 20 + 7 * b + (2 + k) = 20 + 7 * b + 2 + k by omega] | rw [e8, show 20 + 7 * b + (2 + k) = 20 + 7 * b + 2 + k by omega]
        first
        | have sA := s_X12_writesNumber (n := M 518 (20 + 7 * b + 2 + k)) (x2.h H') x1 (by omega) (by omega)
        | have sA := s_X12_writesNumber (n := M 518 (20 + 7 * b + 2 + k)) H' hX (by omega) (by omega)
        refine zf_callV1 (k517) (sA) mtX12_writesNumber wiX12_writesNumber weX12_writesNumber wlX12_164 (q := 71) dX12_writeBallot_68 rfl rfl rfl rfl rfl rfl rfl (fun r S9 M9 h8 hP => ?_) (fun k S9 M9 hP => (z_no hP.1 rfl).elim)
        obtain ⟨rfl, rfl, y1, y2⟩ := hP
        refine zp_inc2 (q := 74) dX12_writeBallot_71 rfl rfl rfl (fun hA => by unfold z_in at hA ⊢; omega) ?_
        refine zr_goto (q := 39) dX12_writeBallot_74 (by decide) ?_
        first
        | (have t0 : k = 0 := by omega
           rw [if_pos t0] at hs
           exact ih (k + 1) M9 (by omega) (by omega) (by omega) (hI.t y2) (by rw [hs]; exact y1))
        | (rw [if_neg (by omega)] at hs
           exact ih (k + 1) M9 (by omega) (by omega) (by omega) ((hI.t x2).t y2) (by rw [hs]; exact y1))
/-- only the signs, and the code -/
def zSh (M M' : zM) (c : Int) : Prop := (∀ z, z ≠ 517 → z ≠ 523 → M' z = M z) ∧ (∀ j, j ≠ 13 → j ≠ 7 → M' 517 j = M 517 j) ∧ M' 517 7 = c
theorem s_X12_writeBallot (H : zHm M) (hG : zWF (M 518)) {b : Int} (hb : 0 ≤ b ∧ b < M 518 1) : z_Call mX12_writeBallot zF [(1, 517), (0, b)] M (fun r S' M' => r = (0, ((zTbk (M 518) b (M 518 (20 + 7 * b + 1))).length : Int)) ∧ S' = zF ∧ zSh M M' 0 ∧ zTy M' (zTbk (M 518) b (M 518 (20 + 7 * b + 1)))) := by
  have hn := hG.n
  have hz := hG.sz hb.1 hb.2
  have hwt := hG.wt hb.1 hb.2
  have hd := zDg_len (M 518 (20 + 7 * b))
  refine z_enter (k := 1) rfl rfl rfl ?_
  refine zp_al0 (q := 1) dX12_writeBallot_0 rfl ?_
  refine zp_il1 (q := 2) dX12_writeBallot_1 rfl ?_
  refine zf_callV1 (k517) (s_X12_isLost H hG) mtX12_isLost wiX12_isLost weX12_isLost wlX12_104 (q := 5) dX12_writeBallot_2 rfl rfl rfl rfl rfl rfl rfl (fun r S9 M9 h8 hP => ?_) (fun k S9 M9 hP => (z_no hP.1 rfl).elim)
  obtain ⟨rfl, rfl, h9⟩ := hP
  subst M9
  rw [if_pos hb]
  refine zr_if_eq (q := 10) (q2 := 8) dX12_writeBallot_5 (by decide) rfl (fun h5 => ?_) (fun h5 => ?_)
  · refine zp_al0 (q := 11) dX12_writeBallot_10 rfl ?_
    refine zr_iconst (q := 12) dX12_writeBallot_11 rfl (z_in_of rfl) ?_
    refine zf_putG 13 (k517) rfl fpX12_158 (q := 15) dX12_writeBallot_12 rfl rfl (by decide) (z_fit_i _) ?_
    have HH : zHm (z_up (z_up M 517 7 0) 517 13 0) := H
    have e0 : zTy (z_up (z_up M 517 7 0) 517 13 0) [] := ⟨z_up_eq, fun i hi => absurd hi (Nat.not_lt_zero _)⟩
    refine zp_al0 (q := 16) dX12_writeBallot_15 rfl ?_
    refine zp_al0 (q := 17) dX12_writeBallot_16 rfl ?_
    refine zp_il1 (q := 18) dX12_writeBallot_17 rfl ?_
    refine zr_iconst (q := 19) dX12_writeBallot_18 rfl (z_in_of rfl) ?_
    refine zf_callV2 (k517) (s_X12_of HH hb.1 (by omega) (by omega) (by omega)) mtX12_of wiX12_of weX12_of wlX12_91 (q := 22) dX12_writeBallot_19 rfl rfl rfl rfl rfl rfl rfl (fun r S9 M9 h8 hP => ?_) (fun k S9 M9 hP => (z_no hP.1 rfl).elim)
    obtain ⟨rfl, rfl, h9⟩ := hP
    subst M9
    rw [Int.add_zero]
    refine zf_callV1 (k517) (s_X12_writesNumber (n := M 518 (20 + 7 * b)) HH e0 (by decide) (by omega)) mtX12_writesNumber wiX12_writesNumber weX12_writesNumber wlX12_164 (q := 25) dX12_writeBallot_22 rfl rfl rfl rfl rfl rfl rfl (fun r S9 M9 h8 hP => ?_) (fun k S9 M9 hP => (z_no hP.1 rfl).elim)
    obtain ⟨rfl, rfl, x1, x2⟩ := hP
    have H1 := x2.h HH
    rw [List.nil_append] at x1
    refine zp_al0 (q := 26) dX12_writeBallot_25 rfl ?_
    refine zr_bipush (q := 28) dX12_writeBallot_26 rfl (z_in_of rfl) (by decide +kernel) ?_
    refine zf_callV1 (k517) (s_X12_writes H1 x1 (by omega) (by omega)) mtX12_writes wiX12_writes weX12_writes wlX12_161 (q := 31) dX12_writeBallot_28 rfl rfl rfl rfl rfl rfl rfl (fun r S9 M9 h8 hP => ?_) (fun k S9 M9 hP => (z_no hP.1 rfl).elim)
    obtain ⟨rfl, rfl, y1, y2⟩ := hP
    have H2 := y2.h H1
    refine zp_al0 (q := 32) dX12_writeBallot_31 rfl ?_
    refine zr_bipush (q := 34) dX12_writeBallot_32 rfl (z_in_of rfl) (by decide +kernel) ?_
    refine zf_callV1 (k517) (s_X12_writes H2 y1 (by rw [List.length_append]; show _ + 1 < 60; omega) (by omega)) mtX12_writes wiX12_writes weX12_writes wlX12_161 (q := 37) dX12_writeBallot_34 rfl rfl rfl rfl rfl rfl rfl (fun r S9 M9 h8 hP => ?_) (fun k S9 M9 hP => (z_no hP.1 rfl).elim)
    obtain ⟨rfl, rfl, u1, u2⟩ := hP
    refine zr_iconst (q := 38) dX12_writeBallot_37 rfl (z_in_of rfl) ?_
    refine zp_is2 (q := 39) dX12_writeBallot_38 rfl rfl rfl ?_
    exact s_X12_writeBallot_l (M := z_up (z_up M 517 7 0) 517 13 0) HH hG (b := b) hb (fun M' hI hX => ⟨rfl, rfl, ⟨fun z a b => (hI.1 z a b).trans (by rw [z_up_ne a, z_up_ne a]), fun j a b => (hI.2 j a).trans (by rw [z_up_sl a, z_up_sl b]), (hI.2 7 (by decide)).trans rfl⟩, hX⟩) 6 0 M9 (by omega) (by show (0 : Int) ≤ M 518 (20 + 7 * b + 1); omega) (by show M 518 (20 + 7 * b + 1) - 0 < _; omega) ((x2.t y2).t u2) u1
  · exact absurd rfl h5
theorem s_X12_writeBallot_x (H : zHm M) (hG : zWF (M 518)) {b : Int} (hb : ¬ (0 ≤ b ∧ b < M 518 1)) : z_Call mX12_writeBallot zF [(1, 517), (0, b)] M (zpF 0 0 (z_up M 517 7 1)) := by
  refine z_enter (k := 1) rfl rfl rfl ?_
  refine zp_al0 (q := 1) dX12_writeBallot_0 rfl ?_
  refine zp_il1 (q := 2) dX12_writeBallot_1 rfl ?_
  refine zf_callV1 (k517) (s_X12_isLost H hG) mtX12_isLost wiX12_isLost weX12_isLost wlX12_104 (q := 5) dX12_writeBallot_2 rfl rfl rfl rfl rfl rfl rfl (fun r S9 M9 h8 hP => ?_) (fun k S9 M9 hP => (z_no hP.1 rfl).elim)
  obtain ⟨rfl, rfl, h9⟩ := hP
  subst M9
  rw [if_neg hb]
  refine zr_if_eq (q := 10) (q2 := 8) dX12_writeBallot_5 (by decide) rfl (fun h5 => ?_) (fun h5 => ?_)
  · exact absurd h5 (by decide)
  · refine zr_iconst (q := 9) dX12_writeBallot_8 rfl (z_in_of rfl) ?_
    refine zr_ireturn dX12_writeBallot_9 rfl (z_fit_i _) ?_
    exact ⟨rfl, rfl, rfl⟩
theorem s_X12_writeCount_l (H : zHm M) {G : Int → Int} (hG : zWF G) (h18 : M 517 18 = zRn G) (h19 : M 517 19 = zW G) (hr : ∀ i, 0 ≤ i → i < zRn G → zMr M G i) {bc bs : Nat} {Q : zV → zS → zM → Prop} (hQ : ∀ M', zSg M M' → zTy M' (zTck G (zRn G)) → Q (0, ((zTck G (zRn G)).length : Int)) zF M') : ∀ (m : Nat) (k : Int) (M' : zM), 0 ≤ k → k ≤ zRn G → zRn G - k < m → zSg M M' → zTy M' (zTck G k) →
    z_Ex mX12_writeCount zF 16 [(1, 517), (0, k)] [] M' bc bs Q := by
  have h8 := zRn_le hG
  have hst := zSt_range hG
  intro m
  induction m with
  | zero => intro k M' a1 a2 a3; omega
  | succ m ih =>
    intro k M' a1 a2 a3 hI hX
    have H' := hI.h H
    have hlen := zTck_len (G := G) a1
    have e := zTck_s (G := G) a1
    have hti := zTi_01 (zVr G k)
    refine zp_il1 (q := 17) dX12_writeCount_16 rfl ?_
    refine zp_al0 (q := 18) dX12_writeCount_17 rfl ?_
    refine zf_getG (v := zRn G) 18 (k517) (by rw [hI.2 18 (by decide)]; exact h18) rfl fdX12_110 (q := 21) dX12_writeCount_18 rfl rfl ?_
    refine zr_icmp_ge (q := 90) (q2 := 24) dX12_writeCount_21 (by decide) rfl (fun h21 => ?_) (fun h21 => ?_)
    · refine zp_al0 (q := 91) dX12_writeCount_90 rfl ?_
      refine zf_getG (v := (zTck G k).length) 13 (k517) (hX.1) rfl fdX12_158 (q := 94) dX12_writeCount_91 rfl rfl ?_
      refine zr_ireturn dX12_writeCount_94 rfl (z_fit_i _) ?_
      have e : k = zRn G := by omega
      subst e
      exact hQ M' hI hX
    · have hk := hr k a1 (by omega)
      have hs : 1 ≤ zSt G := by
        apply Classical.byContradiction
        intro c
        have := zRn_0 (show zSt G = 0 by omega)
        omega
      have hsp := zRn_spec hG hs
      have hel := zEl_in hG hs a1 (show k < zRn G by omega)
      have hEr : -1 ≤ zEl (zVr G k) (zP G k) ∧ zEl (zVr G k) (zP G k) < 8 := by
        by_cases c : k = zRn G - 1
        · rw [hel.mpr c]; omega
        · obtain ⟨w, w0, w1, w2⟩ := (zA_alive hG hs a1 (by omega) (fun j j0 j1 => hsp.2.2.2.1 j j0 (by omega))).2
          have := zEl_ex (V := zVr G k) (s := zP G k) w0 w1 (fun e => by rw [(zVo_ne hG _ w).mp e] at w2; cases w2) (hsp.2.2.2.1 k a1 (by omega)) (zP_range hG a1).1
          omega
      have hWr : zEl (zVr G k) (zP G k) = -1 → zWn (zVr G k) = zW G ∧ 0 ≤ zW G ∧ zW G < 8 := by
        intro c
        have hw := zW_range hG hs
        have hg := hG.w
        refine ⟨?_, by omega, by omega⟩
        unfold zW
        rw [if_neg (by omega), hel.mp c]
      refine zp_al0 (q := 25) dX12_writeCount_24 rfl ?_
      refine zp_al0 (q := 26) dX12_writeCount_25 rfl ?_
      refine zf_getG (v := 526) 16 (k517) (H'.2.2.2.2.2.2.2.2.1) rfl fdX12_42 (q := 29) dX12_writeCount_26 rfl rfl ?_
      refine zp_il1 (q := 30) dX12_writeCount_29 rfl ?_
      refine zf_iald (v := zEl (zVr G k) (zP G k)) (by first | assumption | exact k518 | exact k519 | exact k520 | exact k521 | exact k522 | exact k523 | exact k524 | exact k525 | exact k526 | exact k527 | exact k528 | exact k510 | exact k512 | exact k515 | exact k516 | exact k507 | exact k509 | exact k135 | exact k489 | exact k529 | exact k530) (by rw [hI.1 526 (by decide) (by decide)]; exact hk.2.2.1) (q := 31) dX12_writeCount_30 rfl (by omega) (by omega) ?_
      refine zr_if_ge (q := 41) (q2 := 34) dX12_writeCount_31 (by decide) rfl (fun h31 => ?_) (fun h31 => ?_)
      · refine zp_al0 (q := 42) dX12_writeCount_41 rfl ?_
        refine zf_getG (v := 526) 16 (k517) (H'.2.2.2.2.2.2.2.2.1) rfl fdX12_42 (q := 45) dX12_writeCount_42 rfl rfl ?_
        refine zp_il1 (q := 46) dX12_writeCount_45 rfl ?_
        refine zf_iald (v := zEl (zVr G k) (zP G k)) (by first | assumption | exact k518 | exact k519 | exact k520 | exact k521 | exact k522 | exact k523 | exact k524 | exact k525 | exact k526 | exact k527 | exact k528 | exact k510 | exact k512 | exact k515 | exact k516 | exact k507 | exact k509 | exact k135 | exact k489 | exact k529 | exact k530) (by rw [hI.1 526 (by decide) (by decide)]; exact hk.2.2.1) (q := 47) dX12_writeCount_46 rfl (by omega) (by omega) ?_
        first
        | (have c1 : zEl (zVr G k) (zP G k) = -1 := by omega
           have c2 := hWr c1
           have hd := zDg_len (zW G)
           rw [if_pos c1, if_pos c1, c2.1] at e
           have sA := s_X12_writesNumber (n := zW G) H' hX (by omega) (by omega))
        | (have c1 : zEl (zVr G k) (zP G k) ≠ -1 := by omega
           have hd := zDg_len (zEl (zVr G k) (zP G k))
           rw [if_neg c1, if_neg c1] at e
           have sA := s_X12_writesNumber (n := zEl (zVr G k) (zP G k)) H' hX (by omega) (by omega))
        refine zf_callV1 (k517) (sA) mtX12_writesNumber wiX12_writesNumber weX12_writesNumber wlX12_164 (q := 50) dX12_writeCount_47 rfl rfl rfl rfl rfl rfl rfl (fun r S9 M9 h8 hP => ?_) (fun k S9 M9 hP => (z_no hP.1 rfl).elim)
        obtain ⟨rfl, rfl, x1, x2⟩ := hP
        have H1 := x2.h H'
        refine zp_al0 (q := 51) dX12_writeCount_50 rfl ?_
        refine zp_al0 (q := 52) dX12_writeCount_51 rfl ?_
        refine zf_getG (v := 526) 16 (k517) (H1.2.2.2.2.2.2.2.2.1) rfl fdX12_42 (q := 55) dX12_writeCount_52 rfl rfl ?_
        refine zp_il1 (q := 56) dX12_writeCount_55 rfl ?_
        refine zf_iald (v := zEl (zVr G k) (zP G k)) (by first | assumption | exact k518 | exact k519 | exact k520 | exact k521 | exact k522 | exact k523 | exact k524 | exact k525 | exact k526 | exact k527 | exact k528 | exact k510 | exact k512 | exact k515 | exact k516 | exact k507 | exact k509 | exact k135 | exact k489 | exact k529 | exact k530) (by rw [x2.1 526 (by decide) (by decide), hI.1 526 (by decide) (by decide)]; exact hk.2.2.1) (q := 57) dX12_writeCount_56 rfl (by omega) (by omega) ?_
        refine zr_if_ge (q := 65) (q2 := 60) dX12_writeCount_57 (by decide) rfl (fun h57 => ?_) (fun h57 => ?_)
        · first
          | (exfalso; omega)
          | (refine zp_al0 (q := 66) dX12_writeCount_65 rfl ?_
             refine zf_getG (v := 527) 17 (k517) (H1.2.2.2.2.2.2.2.2.2.1) rfl fdX12_45 (q := 69) dX12_writeCount_66 rfl rfl ?_
             refine zp_il1 (q := 70) dX12_writeCount_69 rfl ?_
             refine zf_zald (v := zTi (zVr G k)) (by first | assumption | exact k518 | exact k519 | exact k520 | exact k521 | exact k522 | exact k523 | exact k524 | exact k525 | exact k526 | exact k527 | exact k528 | exact k510 | exact k512 | exact k515 | exact k516 | exact k507 | exact k509 | exact k135 | exact k489 | exact k529 | exact k530) (by rw [x2.1 527 (by decide) (by decide), hI.1 527 (by decide) (by decide)]; exact hk.2.2.2) (q := 71) dX12_writeCount_70 rfl (by omega) (by omega) ?_
             refine zr_if_eq (q := 79) (q2 := 74) dX12_writeCount_71 (by decide) rfl (fun h71 => ?_) (fun h71 => ?_)
             · refine zr_bipush (q := 81) dX12_writeCount_79 rfl (z_in_of rfl) (by decide +kernel) ?_
               refine zf_callV1 (k517) (s_X12_writes H1 x1 (by rw [List.length_append]; omega) (by omega)) mtX12_writes wiX12_writes weX12_writes wlX12_161 (q := 84) dX12_writeCount_81 rfl rfl rfl rfl rfl rfl rfl (fun r S9 M9 h8 hP => ?_) (fun k S9 M9 hP => (z_no hP.1 rfl).elim)
               obtain ⟨rfl, rfl, y1, y2⟩ := hP
               refine zp_inc1 (q := 87) dX12_writeCount_84 rfl rfl rfl (fun hA => by unfold z_in at hA ⊢; omega) ?_
               refine zr_goto (q := 16) dX12_writeCount_87 (by decide) ?_
               first
               | (rw [if_pos (show zTi (zVr G k) = 1 by omega)] at e
                  exact ih (k + 1) M9 (by omega) (by omega) (by omega) ((hI.t x2).t y2) (by rw [e]; exact y1))
               | (rw [if_neg (show ¬ zTi (zVr G k) = 1 by omega)] at e
                  exact ih (k + 1) M9 (by omega) (by omega) (by omega) ((hI.t x2).t y2) (by rw [e]; exact y1))
               | exact ih (k + 1) M9 (by omega) (by omega) (by omega) ((hI.t x2).t y2) (by rw [e]; exact y1)
             · refine zr_bipush (q := 76) dX12_writeCount_74 rfl (z_in_of rfl) (by decide +kernel) ?_
               refine zr_goto (q := 81) dX12_writeCount_76 (by decide) ?_
               refine zf_callV1 (k517) (s_X12_writes H1 x1 (by rw [List.length_append]; omega) (by omega)) mtX12_writes wiX12_writes weX12_writes wlX12_161 (q := 84) dX12_writeCount_81 rfl rfl rfl rfl rfl rfl rfl (fun r S9 M9 h8 hP => ?_) (fun k S9 M9 hP => (z_no hP.1 rfl).elim)
               obtain ⟨rfl, rfl, y1, y2⟩ := hP
               refine zp_inc1 (q := 87) dX12_writeCount_84 rfl rfl rfl (fun hA => by unfold z_in at hA ⊢; omega) ?_
               refine zr_goto (q := 16) dX12_writeCount_87 (by decide) ?_
               first
               | (rw [if_pos (show zTi (zVr G k) = 1 by omega)] at e
                  exact ih (k + 1) M9 (by omega) (by omega) (by omega) ((hI.t x2).t y2) (by rw [e]; exact y1))
               | (rw [if_neg (show ¬ zTi (zVr G k) = 1 by omega)] at e
                  exact ih (k + 1) M9 (by omega) (by omega) (by omega) ((hI.t x2).t y2) (by rw [e]; exact y1))
               | exact ih (k + 1) M9 (by omega) (by omega) (by omega) ((hI.t x2).t y2) (by rw [e]; exact y1))
        · first
          | (exfalso; omega)
          | (refine zr_bipush (q := 62) dX12_writeCount_60 rfl (z_in_of rfl) (by decide +kernel) ?_
             refine zr_goto (q := 81) dX12_writeCount_62 (by decide) ?_
             refine zf_callV1 (k517) (s_X12_writes H1 x1 (by rw [List.length_append]; omega) (by omega)) mtX12_writes wiX12_writes weX12_writes wlX12_161 (q := 84) dX12_writeCount_81 rfl rfl rfl rfl rfl rfl rfl (fun r S9 M9 h8 hP => ?_) (fun k S9 M9 hP => (z_no hP.1 rfl).elim)
             obtain ⟨rfl, rfl, y1, y2⟩ := hP
             refine zp_inc1 (q := 87) dX12_writeCount_84 rfl rfl rfl (fun hA => by unfold z_in at hA ⊢; omega) ?_
             refine zr_goto (q := 16) dX12_writeCount_87 (by decide) ?_
             first
             | (rw [if_pos (show zTi (zVr G k) = 1 by omega)] at e
                exact ih (k + 1) M9 (by omega) (by omega) (by omega) ((hI.t x2).t y2) (by rw [e]; exact y1))
             | (rw [if_neg (show ¬ zTi (zVr G k) = 1 by omega)] at e
                exact ih (k + 1) M9 (by omega) (by omega) (by omega) ((hI.t x2).t y2) (by rw [e]; exact y1))
             | exact ih (k + 1) M9 (by omega) (by omega) (by omega) ((hI.t x2).t y2) (by rw [e]; exact y1))
      · refine zp_al0 (q := 35) dX12_writeCount_34 rfl ?_
        refine zf_getG (v := zW G) 19 (k517) (by rw [hI.2 19 (by decide)]; exact h19) rfl fdX12_116 (q := 38) dX12_writeCount_35 rfl rfl ?_
        refine zr_goto (q := 47) dX12_writeCount_38 (by decide) ?_
        first
        | (have c1 : zEl (zVr G k) (zP G k) = -1 := by omega
           have c2 := hWr c1
           have hd := zDg_len (zW G)
           rw [if_pos c1, if_pos c1, c2.1] at e
           have sA := s_X12_writesNumber (n := zW G) H' hX (by omega) (by omega))
        | (have c1 : zEl (zVr G k) (zP G k) ≠ -1 := by omega
           have hd := zDg_len (zEl (zVr G k) (zP G k))
           rw [if_neg c1, if_neg c1] at e
           have sA := s_X12_writesNumber (n := zEl (zVr G k) (zP G k)) H' hX (by omega) (by omega))
        refine zf_callV1 (k517) (sA) mtX12_writesNumber wiX12_writesNumber weX12_writesNumber wlX12_164 (q := 50) dX12_writeCount_47 rfl rfl rfl rfl rfl rfl rfl (fun r S9 M9 h8 hP => ?_) (fun k S9 M9 hP => (z_no hP.1 rfl).elim)
        obtain ⟨rfl, rfl, x1, x2⟩ := hP
        have H1 := x2.h H'
        refine zp_al0 (q := 51) dX12_writeCount_50 rfl ?_
        refine zp_al0 (q := 52) dX12_writeCount_51 rfl ?_
        refine zf_getG (v := 526) 16 (k517) (H1.2.2.2.2.2.2.2.2.1) rfl fdX12_42 (q := 55) dX12_writeCount_52 rfl rfl ?_
        refine zp_il1 (q := 56) dX12_writeCount_55 rfl ?_
        refine zf_iald (v := zEl (zVr G k) (zP G k)) (by first | assumption | exact k518 | exact k519 | exact k520 | exact k521 | exact k522 | exact k523 | exact k524 | exact k525 | exact k526 | exact k527 | exact k528 | exact k510 | exact k512 | exact k515 | exact k516 | exact k507 | exact k509 | exact k135 | exact k489 | exact k529 | exact k530) (by rw [x2.1 526 (by decide) (by decide), hI.1 526 (by decide) (by decide)]; exact hk.2.2.1) (q := 57) dX12_writeCount_56 rfl (by omega) (by omega) ?_
        refine zr_if_ge (q := 65) (q2 := 60) dX12_writeCount_57 (by decide) rfl (fun h57 => ?_) (fun h57 => ?_)
        · first
          | (exfalso; omega)
          | (refine zp_al0 (q := 66) dX12_writeCount_65 rfl ?_
             refine zf_getG (v := 527) 17 (k517) (H1.2.2.2.2.2.2.2.2.2.1) rfl fdX12_45 (q := 69) dX12_writeCount_66 rfl rfl ?_
             refine zp_il1 (q := 70) dX12_writeCount_69 rfl ?_
             refine zf_zald (v := zTi (zVr G k)) (by first | assumption | exact k518 | exact k519 | exact k520 | exact k521 | exact k522 | exact k523 | exact k524 | exact k525 | exact k526 | exact k527 | exact k528 | exact k510 | exact k512 | exact k515 | exact k516 | exact k507 | exact k509 | exact k135 | exact k489 | exact k529 | exact k530) (by rw [x2.1 527 (by decide) (by decide), hI.1 527 (by decide) (by decide)]; exact hk.2.2.2) (q := 71) dX12_writeCount_70 rfl (by omega) (by omega) ?_
             refine zr_if_eq (q := 79) (q2 := 74) dX12_writeCount_71 (by decide) rfl (fun h71 => ?_) (fun h71 => ?_)
             · refine zr_bipush (q := 81) dX12_writeCount_79 rfl (z_in_of rfl) (by decide +kernel) ?_
               refine zf_callV1 (k517) (s_X12_writes H1 x1 (by rw [List.length_append]; omega) (by omega)) mtX12_writes wiX12_writes weX12_writes wlX12_161 (q := 84) dX12_writeCount_81 rfl rfl rfl rfl rfl rfl rfl (fun r S9 M9 h8 hP => ?_) (fun k S9 M9 hP => (z_no hP.1 rfl).elim)
               obtain ⟨rfl, rfl, y1, y2⟩ := hP
               refine zp_inc1 (q := 87) dX12_writeCount_84 rfl rfl rfl (fun hA => by unfold z_in at hA ⊢; omega) ?_
               refine zr_goto (q := 16) dX12_writeCount_87 (by decide) ?_
               first
               | (rw [if_pos (show zTi (zVr G k) = 1 by omega)] at e
                  exact ih (k + 1) M9 (by omega) (by omega) (by omega) ((hI.t x2).t y2) (by rw [e]; exact y1))
               | (rw [if_neg (show ¬ zTi (zVr G k) = 1 by omega)] at e
                  exact ih (k + 1) M9 (by omega) (by omega) (by omega) ((hI.t x2).t y2) (by rw [e]; exact y1))
               | exact ih (k + 1) M9 (by omega) (by omega) (by omega) ((hI.t x2).t y2) (by rw [e]; exact y1)
             · refine zr_bipush (q := 76) dX12_writeCount_74 rfl (z_in_of rfl) (by decide +kernel) ?_
               refine zr_goto (q := 81) dX12_writeCount_76 (by decide) ?_
               refine zf_callV1 (k517) (s_X12_writes H1 x1 (by rw [List.length_append]; omega) (by omega)) mtX12_writes wiX12_writes weX12_writes wlX12_161 (q := 84) dX12_writeCount_81 rfl rfl rfl rfl rfl rfl rfl (fun r S9 M9 h8 hP => ?_) (fun k S9 M9 hP => (z_no hP.1 rfl).elim)
               obtain ⟨rfl, rfl, y1, y2⟩ := hP
               refine zp_inc1 (q := 87) dX12_writeCount_84 rfl rfl rfl (fun hA => by unfold z_in at hA ⊢; omega) ?_
               refine zr_goto (q := 16) dX12_writeCount_87 (by decide) ?_
               first
               | (rw [if_pos (show zTi (zVr G k) = 1 by omega)] at e
                  exact ih (k + 1) M9 (by omega) (by omega) (by omega) ((hI.t x2).t y2) (by rw [e]; exact y1))
               | (rw [if_neg (show ¬ zTi (zVr G k) = 1 by omega)] at e
                  exact ih (k + 1) M9 (by omega) (by omega) (by omega) ((hI.t x2).t y2) (by rw [e]; exact y1))
               | exact ih (k + 1) M9 (by omega) (by omega) (by omega) ((hI.t x2).t y2) (by rw [e]; exact y1))
        · first
          | (exfalso; omega)
          | (refine zr_bipush (q := 62) dX12_writeCount_60 rfl (z_in_of rfl) (by decide +kernel) ?_
             refine zr_goto (q := 81) dX12_writeCount_62 (by decide) ?_
             refine zf_callV1 (k517) (s_X12_writes H1 x1 (by rw [List.length_append]; omega) (by omega)) mtX12_writes wiX12_writes weX12_writes wlX12_161 (q := 84) dX12_writeCount_81 rfl rfl rfl rfl rfl rfl rfl (fun r S9 M9 h8 hP => ?_) (fun k S9 M9 hP => (z_no hP.1 rfl).elim)
             obtain ⟨rfl, rfl, y1, y2⟩ := hP
             refine zp_inc1 (q := 87) dX12_writeCount_84 rfl rfl rfl (fun hA => by unfold z_in at hA ⊢; omega) ?_
             refine zr_goto (q := 16) dX12_writeCount_87 (by decide) ?_
             first
             | (rw [if_pos (show zTi (zVr G k) = 1 by omega)] at e
                exact ih (k + 1) M9 (by omega) (by omega) (by omega) ((hI.t x2).t y2) (by rw [e]; exact y1))
             | (rw [if_neg (show ¬ zTi (zVr G k) = 1 by omega)] at e
                exact ih (k + 1) M9 (by omega) (by omega) (by omega) ((hI.t x2).t y2) (by rw [e]; exact y1))
             | exact ih (k + 1) M9 (by omega) (by omega) (by omega) ((hI.t x2).t y2) (by rw [e]; exact y1))
/-- counted, with signs written -/
def zSc9 (M M' : zM) : Prop := (∀ z, z ≠ 517 → z ≠ 523 → z ≠ 524 → z ≠ 525 → z ≠ 526 → z ≠ 527 → M' z = M z) ∧ (∀ j, j ≠ 7 → j ≠ 13 → j ≠ 18 → j ≠ 19 → j ≠ 20 → M' 517 j = M 517 j) ∧ M' 517 7 = 0
theorem s_X12_writeCount (H : zHm M) (hG : zWF (M 518)) : z_Call mX12_writeCount zF [(1, 517)] M (fun r S' M' => r = (0, ((zTck (M 518) (zRn (M 518))).length : Int)) ∧ S' = zF ∧ zSc9 M M' ∧ zTy M' (zTck (M 518) (zRn (M 518)))) := by
  have h8 := zRn_le hG
  refine z_enter (k := 1) rfl rfl rfl ?_
  refine zp_al0 (q := 1) dX12_writeCount_0 rfl ?_
  refine zr_iconst (q := 2) dX12_writeCount_1 rfl (z_in_of rfl) ?_
  refine zf_putG 7 (k517) rfl fpX12_52 (q := 5) dX12_writeCount_2 rfl rfl (by decide) (z_fit_i _) ?_
  refine zp_al0 (q := 6) dX12_writeCount_5 rfl ?_
  refine zf_callV0 (k517) (s_X12_counts H.c hG.c) mtX12_counts wiX12_counts weX12_counts wlX12_130 (q := 9) dX12_writeCount_6 rfl rfl rfl rfl rfl rfl rfl (fun r S9 M9 h8 hP => ?_) (fun k S9 M9 hP => (z_no hP.1 rfl).elim)
  obtain ⟨rfl, rfl, hT⟩ := hP
  have HT := hT.h H.c
  refine zp_al0 (q := 10) dX12_writeCount_9 rfl ?_
  refine zr_iconst (q := 11) dX12_writeCount_10 rfl (z_in_of rfl) ?_
  refine zf_putG 13 (k517) rfl fpX12_158 (q := 14) dX12_writeCount_11 rfl rfl (by decide) (z_fit_i _) ?_
  refine zr_iconst (q := 15) dX12_writeCount_14 rfl (z_in_of rfl) ?_
  refine zp_is1 (q := 16) dX12_writeCount_15 rfl rfl rfl ?_
  refine s_X12_writeCount_l (M := z_up M9 517 13 0) (G := M 518) HT hG ((z_up_sl (by decide)).trans hT.2.2.1) ((z_up_sl (by decide)).trans hT.2.2.2.1) (fun i a b => ?_) (fun M' hI hX => ⟨rfl, rfl, ⟨fun z a b c d e f => (hI.1 z a b).trans ((z_up_ne a).trans ((hT.1 z a c d e f).trans (z_up_ne a))), fun j a b c d e => (hI.2 j b).trans ((z_up_sl b).trans ((hT.2.1 j c d e).trans (z_up_sl a))), (hI.2 7 (by decide)).trans ((z_up_sl (by decide)).trans ((hT.2.1 7 (by decide) (by decide) (by decide)).trans z_up_eq))⟩, hX⟩) 9 0 _ (by omega) (by omega) (by omega) ⟨fun _ _ _ => rfl, fun _ _ => rfl⟩ ⟨z_up_eq, fun i hi => absurd hi (Nat.not_lt_zero _)⟩
  have h9 := hT.2.2.2.2.2 i a b
  unfold zMr at h9 ⊢
  rw [z_up_ne (by decide), z_up_ne (by decide), z_up_ne (by decide), z_up_ne (by decide)]
  exact h9
theorem s_X12_type (H : zHm M) (h : zTi9 M L) {x : Int} (hx : 32 ≤ x ∧ x ≤ 126) (hl : L.length < 60) : z_Call mX12_type zF [(1, 517), (0, x)] M (fun r S' M' => r = (0, (L.length : Int) + 1) ∧ S' = zF ∧ zTi9 M' (L ++ [x]) ∧ (∀ z, z ≠ 517 → z ≠ 522 → M' z = M z) ∧ (∀ j, j ≠ 7 → j ≠ 9 → M' 517 j = M 517 j) ∧ M' 517 7 = 0) := by
  refine z_enter (k := 0) rfl rfl rfl ?_
  refine zp_al0 (q := 1) dX12_type_0 rfl ?_
  refine zp_il1 (q := 2) dX12_type_1 rfl ?_
  refine zr_bipush (q := 4) dX12_type_2 rfl (z_in_of rfl) (by decide +kernel) ?_
  refine zr_bipush (q := 6) dX12_type_4 rfl (z_in_of rfl) (by decide +kernel) ?_
  refine zp_callS3 (s_X12_in) mtX12_in wtX12_in wlX12_66 (q := 9) dX12_type_6 rfl rfl rfl rfl rfl (fun r S9 M9 h8 hP => ?_) (fun k S9 M9 hP => (z_no hP.1 rfl).elim)
  obtain ⟨rfl, rfl, h9⟩ := hP
  subst M9
  rw [if_pos hx]
  refine zr_if_ne (q := 16) (q2 := 12) dX12_type_9 (by decide) rfl (fun hb9 => ?_) (fun hb9 => ?_)
  · refine zp_al0 (q := 17) dX12_type_16 rfl ?_
    refine zf_getG (v := L.length) 9 (k517) (h.1) rfl fdX12_167 (q := 20) dX12_type_17 rfl rfl ?_
    refine zr_bipush (q := 22) dX12_type_20 rfl (z_in_of rfl) (by decide +kernel) ?_
    refine zr_icmp_ne (q := 29) (q2 := 25) dX12_type_22 (by decide) rfl (fun h22 => ?_) (fun h22 => ?_)
    · refine zr_iconst (q := 30) dX12_type_29 rfl (z_in_of rfl) ?_
      refine zf_callV1 (k517) (s_X12_fails) mtX12_fails wiX12_fails weX12_fails wlX12_77 (q := 33) dX12_type_30 rfl rfl rfl rfl rfl rfl rfl (fun r S9 M9 h8 hP => ?_) (fun k S9 M9 hP => (z_no hP.1 rfl).elim)
      obtain ⟨rfl, rfl, h9⟩ := hP
      subst M9
      refine zr_if_eq (q := 38) (q2 := 36) dX12_type_33 (by decide) rfl (fun h33 => ?_) (fun h33 => ?_)
      · refine zp_al0 (q := 39) dX12_type_38 rfl ?_
        refine zf_getG (v := 522) 8 (k517) (H.2.2.2.2.1) rfl fdX12_22 (q := 42) dX12_type_39 rfl rfl ?_
        refine zp_al0 (q := 43) dX12_type_42 rfl ?_
        refine zf_getG (v := L.length) 9 (k517) (by rw [z_up_sl (by decide)]; exact h.1) rfl fdX12_167 (q := 46) dX12_type_43 rfl rfl ?_
        refine zp_il1 (q := 47) dX12_type_46 rfl ?_
        refine zf_iast (by first | assumption | exact k518 | exact k519 | exact k520 | exact k521 | exact k522 | exact k523 | exact k524 | exact k525 | exact k526 | exact k527 | exact k528 | exact k510 | exact k512 | exact k515 | exact k516 | exact k507 | exact k509 | exact k135 | exact k489 | exact k529 | exact k530) (q := 48) dX12_type_47 rfl (by omega) (by omega) ?_
        refine zp_al0 (q := 49) dX12_type_48 rfl ?_
        refine zr_dup (q := 50) dX12_type_49 rfl (Or.inr rfl) ?_
        refine zf_getG (v := L.length) 9 (k517) (by rw [z_up_ne (by decide), z_up_sl (by decide)]; exact h.1) rfl fdX12_167 (q := 53) dX12_type_50 rfl rfl ?_
        refine zr_iconst (q := 54) dX12_type_53 rfl (z_in_of rfl) ?_
        refine zr_iadd (q := 55) dX12_type_54 rfl (fun hA hB => by unfold z_in at hA hB ⊢; omega) ?_
        refine zf_putG 9 (k517) rfl fpX12_167 (q := 58) dX12_type_55 rfl rfl (by decide) (z_fit_i _) ?_
        refine zp_al0 (q := 59) dX12_type_58 rfl ?_
        refine zf_getG (v := (L.length : Int) + 1) 9 (k517) (z_up_eq) rfl fdX12_167 (q := 62) dX12_type_59 rfl rfl ?_
        refine zr_ireturn dX12_type_62 rfl (z_fit_i _) ?_
        refine ⟨rfl, rfl, ⟨by rw [z_up_eq, List.length_append]; rfl, fun i hi => ?_⟩, fun z a b => by rw [z_up_ne a, z_up_ne b, z_up_ne a], fun j a b => by rw [z_up_sl b, z_up_ne (by decide), z_up_sl a], by rw [z_up_sl (by decide), z_up_ne (by decide), z_up_eq]⟩
        rw [List.length_append] at hi
        rw [z_up_ne (by decide)]
        by_cases e : i = L.length
        · rw [e, z_up_eq, zg_2]
        · have hi2 : i < L.length := by
            have : i < L.length + 1 := hi
            omega
          rw [z_up_sl (by omega), z_up_ne (by decide), zg_1 hi2]
          exact h.2 i hi2
      · exact absurd h33 (by decide)
    · exact absurd h22 (by omega)
  · exact absurd (by decide) hb9
theorem s_X12_type_x {x : Int} (hx : ¬ (32 ≤ x ∧ x ≤ 126)) : z_Call mX12_type zF [(1, 517), (0, x)] M (zpF 0 0 (z_up M 517 7 1)) := by
  refine z_enter (k := 0) rfl rfl rfl ?_
  refine zp_al0 (q := 1) dX12_type_0 rfl ?_
  refine zp_il1 (q := 2) dX12_type_1 rfl ?_
  refine zr_bipush (q := 4) dX12_type_2 rfl (z_in_of rfl) (by decide +kernel) ?_
  refine zr_bipush (q := 6) dX12_type_4 rfl (z_in_of rfl) (by decide +kernel) ?_
  refine zp_callS3 (s_X12_in) mtX12_in wtX12_in wlX12_66 (q := 9) dX12_type_6 rfl rfl rfl rfl rfl (fun r S9 M9 h8 hP => ?_) (fun k S9 M9 hP => (z_no hP.1 rfl).elim)
  obtain ⟨rfl, rfl, h9⟩ := hP
  subst M9
  rw [if_neg hx]
  refine zr_if_ne (q := 16) (q2 := 12) dX12_type_9 (by decide) rfl (fun hb9 => ?_) (fun hb9 => ?_)
  · exact absurd rfl hb9
  · refine zr_iconst (q := 13) dX12_type_12 rfl (z_in_of rfl) ?_
    refine zr_goto (q := 30) dX12_type_13 (by decide) ?_
    refine zf_callV1 (k517) (s_X12_fails) mtX12_fails wiX12_fails weX12_fails wlX12_77 (q := 33) dX12_type_30 rfl rfl rfl rfl rfl rfl rfl (fun r S9 M9 h8 hP => ?_) (fun k S9 M9 hP => (z_no hP.1 rfl).elim)
    obtain ⟨rfl, rfl, h9⟩ := hP
    subst M9
    refine zr_if_eq (q := 38) (q2 := 36) dX12_type_33 (by decide) rfl (fun h33 => ?_) (fun h33 => ?_)
    · exact absurd h33 (by decide)
    · refine zr_iconst (q := 37) dX12_type_36 rfl (z_in_of rfl) ?_
      refine zr_ireturn dX12_type_37 rfl (z_fit_i _) ?_
      exact ⟨rfl, rfl, rfl⟩
theorem s_X12_type_y (h : zTi9 M L) {x : Int} (hx : 32 ≤ x ∧ x ≤ 126) (hl : L.length = 60) : z_Call mX12_type zF [(1, 517), (0, x)] M (zpF 0 0 (z_up M 517 7 2)) := by
  refine z_enter (k := 0) rfl rfl rfl ?_
  refine zp_al0 (q := 1) dX12_type_0 rfl ?_
  refine zp_il1 (q := 2) dX12_type_1 rfl ?_
  refine zr_bipush (q := 4) dX12_type_2 rfl (z_in_of rfl) (by decide +kernel) ?_
  refine zr_bipush (q := 6) dX12_type_4 rfl (z_in_of rfl) (by decide +kernel) ?_
  refine zp_callS3 (s_X12_in) mtX12_in wtX12_in wlX12_66 (q := 9) dX12_type_6 rfl rfl rfl rfl rfl (fun r S9 M9 h8 hP => ?_) (fun k S9 M9 hP => (z_no hP.1 rfl).elim)
  obtain ⟨rfl, rfl, h9⟩ := hP
  subst M9
  rw [if_pos hx]
  refine zr_if_ne (q := 16) (q2 := 12) dX12_type_9 (by decide) rfl (fun hb9 => ?_) (fun hb9 => ?_)
  · refine zp_al0 (q := 17) dX12_type_16 rfl ?_
    refine zf_getG (v := L.length) 9 (k517) (h.1) rfl fdX12_167 (q := 20) dX12_type_17 rfl rfl ?_
    refine zr_bipush (q := 22) dX12_type_20 rfl (z_in_of rfl) (by decide +kernel) ?_
    refine zr_icmp_ne (q := 29) (q2 := 25) dX12_type_22 (by decide) rfl (fun h22 => ?_) (fun h22 => ?_)
    · exact absurd (show (L.length : Int) = 60 by omega) h22
    · refine zr_iconst (q := 26) dX12_type_25 rfl (z_in_of rfl) ?_
      refine zr_goto (q := 30) dX12_type_26 (by decide) ?_
      refine zf_callV1 (k517) (s_X12_fails) mtX12_fails wiX12_fails weX12_fails wlX12_77 (q := 33) dX12_type_30 rfl rfl rfl rfl rfl rfl rfl (fun r S9 M9 h8 hP => ?_) (fun k S9 M9 hP => (z_no hP.1 rfl).elim)
      obtain ⟨rfl, rfl, h9⟩ := hP
      subst M9
      refine zr_if_eq (q := 38) (q2 := 36) dX12_type_33 (by decide) rfl (fun h33 => ?_) (fun h33 => ?_)
      · exact absurd h33 (by decide)
      · refine zr_iconst (q := 37) dX12_type_36 rfl (z_in_of rfl) ?_
        refine zr_ireturn dX12_type_37 rfl (z_fit_i _) ?_
        exact ⟨rfl, rfl, rfl⟩
  · exact absurd (by decide) hb9
end ZRT
