/-! dep: 70 71 -/
/-! ===== WindElection$Reader ===== -/
/-- the reader stands before a text -/
def zRh (M : zM) (L : List Int) : Prop := M 513 0 = 514 ∧ M 513 3 = 516 ∧ zTx M 514 L ∧ L.length ≤ 60
/-- only the reader has changed, and none of its objects -/
def zRk9 (M M' : zM) : Prop := (∀ z, z ≠ 513 → z ≠ 516 → M' z = M z) ∧ M' 513 0 = M 513 0 ∧ M' 513 3 = M 513 3
theorem zRk9.r (M : zM) : zRk9 M M := ⟨fun _ _ _ => rfl, rfl, rfl⟩
theorem zRk9.t {M M1 M2 : zM} (h : zRk9 M M1) (h2 : zRk9 M1 M2) : zRk9 M M2 := ⟨fun z a b => (h2.1 z a b).trans (h.1 z a b), h2.2.1.trans h.2.1, h2.2.2.trans h.2.2⟩
theorem zRk9.h {M M' : zM} {L : List Int} (h : zRk9 M M') (H : zRh M L) : zRh M' L := by
  obtain ⟨a, b, c, d⟩ := H
  exact ⟨h.2.1.trans a, h.2.2.trans b, c.of (h.1 514 (by decide) (by decide)) (h.1 515 (by decide) (by decide)), d⟩
theorem zRk9.u {M : zM} {j v : Int} (h0 : j ≠ 0) (h3 : j ≠ 3) : zRk9 M (z_up M 513 j v) := ⟨fun z a _ => z_up_ne a, z_up_sl (Ne.symm h0), z_up_sl (Ne.symm h3)⟩
theorem zRk9.n {M : zM} {j v : Int} : zRk9 M (z_up M 516 j v) := ⟨fun z _ a => z_up_ne a, by rw [z_up_ne (by decide)], by rw [z_up_ne (by decide)]⟩
theorem zTx_g {M : zM} {L : List Int} (h : zTx M 514 L) {p : Int} (h0 : 0 ≤ p) (h1 : p < L.length) : M 515 p = zCh9 L p := by
  have e := h.2.2 p.toNat (by omega)
  rw [show ((p.toNat : Nat) : Int) = p by omega] at e
  rw [zCh9_in h0 h1]
  exact e
theorem zCh9_lt {L : List Int} {p : Int} (h : zCh9 L p ≠ -1) (hl : L.length ≤ 60) : p < 60 := by
  by_cases e : p < L.length
  · omega
  · exact absurd (zCh9_out (by omega)) h
/-- the digit at a place -/
def zDi (c : Int → Int) (p : Int) : Int := if 48 ≤ c p ∧ c p ≤ 57 then c p - 48 else -1
section ZRE
variable {M : zM} {L : List Int}
theorem s_X9_hasAt (hX : zTx M 514 L) (hl : L.length ≤ 60) {p x : Int} (hx : 0 ≤ x) : z_Call mX9_hasAt zF [(1, 514), (0, p), (0, x)] M (zpF 0 (if zCh9 L p = x then 1 else 0) M) := by
  have o0 := k514
  have o1 := k515
  refine z_enter (k := 0) rfl rfl rfl ?_
  refine zp_il1 (q := 1) dX9_hasAt_0 rfl ?_
  refine zr_if_lt (q := 26) (q2 := 4) dX9_hasAt_1 (by decide) rfl (fun h1 => ?_) (fun h1 => ?_)
  · refine zr_iconst (q := 27) dX9_hasAt_26 rfl (z_in_of rfl) ?_
    refine zr_ireturn dX9_hasAt_27 rfl (z_fit_z (by decide)) ?_
    first
    | (have e9 : zCh9 L p = x := by omega
       rw [if_pos e9]
       exact ⟨rfl, rfl, rfl⟩)
    | (have e9 : ¬ zCh9 L p = x := by omega
       rw [if_neg e9]
       exact ⟨rfl, rfl, rfl⟩)
    | (have e8 := zCh9_out (L := L) (p := p) (by omega)
       have e9 : ¬ zCh9 L p = x := by omega
       rw [if_neg e9]
       exact ⟨rfl, rfl, rfl⟩)
  · refine zp_il1 (q := 5) dX9_hasAt_4 rfl ?_
    refine zp_al0 (q := 6) dX9_hasAt_5 rfl ?_
    refine zf_getG (v := L.length) 1 (o0) (hX.2.1) rfl fdX9_15 (q := 9) dX9_hasAt_6 rfl rfl ?_
    refine zr_icmp_ge (q := 26) (q2 := 12) dX9_hasAt_9 (by decide) rfl (fun h9 => ?_) (fun h9 => ?_)
    · refine zr_iconst (q := 27) dX9_hasAt_26 rfl (z_in_of rfl) ?_
      refine zr_ireturn dX9_hasAt_27 rfl (z_fit_z (by decide)) ?_
      first
      | (have e9 : zCh9 L p = x := by omega
         rw [if_pos e9]
         exact ⟨rfl, rfl, rfl⟩)
      | (have e9 : ¬ zCh9 L p = x := by omega
         rw [if_neg e9]
         exact ⟨rfl, rfl, rfl⟩)
      | (have e8 := zCh9_out (L := L) (p := p) (by omega)
         have e9 : ¬ zCh9 L p = x := by omega
         rw [if_neg e9]
         exact ⟨rfl, rfl, rfl⟩)
    · refine zp_al0 (q := 13) dX9_hasAt_12 rfl ?_
      refine zf_getG (v := 515) 0 (o0) (hX.1) rfl fdX9_9 (q := 16) dX9_hasAt_13 rfl rfl ?_
      refine zp_il1 (q := 17) dX9_hasAt_16 rfl ?_
      refine zf_cald (v := zCh9 L p) (o1) (zTx_g hX (by omega) (by omega)) (q := 18) dX9_hasAt_17 rfl (by omega) (by omega) ?_
      refine zp_il2 (q := 19) dX9_hasAt_18 rfl ?_
      refine zr_icmp_ne (q := 26) (q2 := 22) dX9_hasAt_19 (by decide) rfl (fun h19 => ?_) (fun h19 => ?_)
      · refine zr_iconst (q := 27) dX9_hasAt_26 rfl (z_in_of rfl) ?_
        refine zr_ireturn dX9_hasAt_27 rfl (z_fit_z (by decide)) ?_
        first
        | (have e9 : zCh9 L p = x := by omega
           rw [if_pos e9]
           exact ⟨rfl, rfl, rfl⟩)
        | (have e9 : ¬ zCh9 L p = x := by omega
           rw [if_neg e9]
           exact ⟨rfl, rfl, rfl⟩)
        | (have e8 := zCh9_out (L := L) (p := p) (by omega)
           have e9 : ¬ zCh9 L p = x := by omega
           rw [if_neg e9]
           exact ⟨rfl, rfl, rfl⟩)
      · refine zr_iconst (q := 23) dX9_hasAt_22 rfl (z_in_of rfl) ?_
        refine zr_goto (q := 27) dX9_hasAt_23 (by decide) ?_
        refine zr_ireturn dX9_hasAt_27 rfl (z_fit_z (by decide)) ?_
        first
        | (have e9 : zCh9 L p = x := by omega
           rw [if_pos e9]
           exact ⟨rfl, rfl, rfl⟩)
        | (have e9 : ¬ zCh9 L p = x := by omega
           rw [if_neg e9]
           exact ⟨rfl, rfl, rfl⟩)
        | (have e8 := zCh9_out (L := L) (p := p) (by omega)
           have e9 : ¬ zCh9 L p = x := by omega
           rw [if_neg e9]
           exact ⟨rfl, rfl, rfl⟩)
theorem s_X9_digitAt (hX : zTx M 514 L) (hl : L.length ≤ 60) {p : Int} : z_Call mX9_digitAt zF [(1, 514), (0, p)] M (zpF 0 (zDi (zCh9 L) p) M) := by
  have o0 := k514
  have o1 := k515
  refine z_enter (k := 0) rfl rfl rfl ?_
  refine zp_il1 (q := 1) dX9_digitAt_0 rfl ?_
  refine zr_if_lt (q := 34) (q2 := 4) dX9_digitAt_1 (by decide) rfl (fun h1 => ?_) (fun h1 => ?_)
  · refine zr_iconst (q := 35) dX9_digitAt_34 rfl (z_in_of rfl) ?_
    refine zr_ireturn dX9_digitAt_35 rfl (z_fit_i _) ?_
    first
    | (have e9 : 48 ≤ zCh9 L p ∧ zCh9 L p ≤ 57 := by omega
       refine ⟨?_, rfl, rfl⟩
       unfold zDi
       rw [if_pos e9])
    | (have e9 : ¬ (48 ≤ zCh9 L p ∧ zCh9 L p ≤ 57) := by omega
       refine ⟨?_, rfl, rfl⟩
       unfold zDi
       rw [if_neg e9])
    | (have e8 := zCh9_out (L := L) (p := p) (by omega)
       have e9 : ¬ (48 ≤ zCh9 L p ∧ zCh9 L p ≤ 57) := by omega
       refine ⟨?_, rfl, rfl⟩
       unfold zDi
       rw [if_neg e9])
  · refine zp_il1 (q := 5) dX9_digitAt_4 rfl ?_
    refine zp_al0 (q := 6) dX9_digitAt_5 rfl ?_
    refine zf_getG (v := L.length) 1 (o0) (hX.2.1) rfl fdX9_15 (q := 9) dX9_digitAt_6 rfl rfl ?_
    refine zr_icmp_ge (q := 34) (q2 := 12) dX9_digitAt_9 (by decide) rfl (fun h9 => ?_) (fun h9 => ?_)
    · refine zr_iconst (q := 35) dX9_digitAt_34 rfl (z_in_of rfl) ?_
      refine zr_ireturn dX9_digitAt_35 rfl (z_fit_i _) ?_
      first
      | (have e9 : 48 ≤ zCh9 L p ∧ zCh9 L p ≤ 57 := by omega
         refine ⟨?_, rfl, rfl⟩
         unfold zDi
         rw [if_pos e9])
      | (have e9 : ¬ (48 ≤ zCh9 L p ∧ zCh9 L p ≤ 57) := by omega
         refine ⟨?_, rfl, rfl⟩
         unfold zDi
         rw [if_neg e9])
      | (have e8 := zCh9_out (L := L) (p := p) (by omega)
         have e9 : ¬ (48 ≤ zCh9 L p ∧ zCh9 L p ≤ 57) := by omega
         refine ⟨?_, rfl, rfl⟩
         unfold zDi
         rw [if_neg e9])
    · refine zp_al0 (q := 13) dX9_digitAt_12 rfl ?_
      refine zf_getG (v := 515) 0 (o0) (hX.1) rfl fdX9_9 (q := 16) dX9_digitAt_13 rfl rfl ?_
      refine zp_il1 (q := 17) dX9_digitAt_16 rfl ?_
      refine zf_cald (v := zCh9 L p) (o1) (zTx_g hX (by omega) (by omega)) (q := 18) dX9_digitAt_17 rfl (by omega) (by omega) ?_
      refine zr_bipush (q := 20) dX9_digitAt_18 rfl (z_in_of rfl) (by decide +kernel) ?_
      refine zr_icmp_lt (q := 34) (q2 := 23) dX9_digitAt_20 (by decide) rfl (fun h20 => ?_) (fun h20 => ?_)
      · refine zr_iconst (q := 35) dX9_digitAt_34 rfl (z_in_of rfl) ?_
        refine zr_ireturn dX9_digitAt_35 rfl (z_fit_i _) ?_
        first
        | (have e9 : 48 ≤ zCh9 L p ∧ zCh9 L p ≤ 57 := by omega
           refine ⟨?_, rfl, rfl⟩
           unfold zDi
           rw [if_pos e9])
        | (have e9 : ¬ (48 ≤ zCh9 L p ∧ zCh9 L p ≤ 57) := by omega
           refine ⟨?_, rfl, rfl⟩
           unfold zDi
           rw [if_neg e9])
        | (have e8 := zCh9_out (L := L) (p := p) (by omega)
           have e9 : ¬ (48 ≤ zCh9 L p ∧ zCh9 L p ≤ 57) := by omega
           refine ⟨?_, rfl, rfl⟩
           unfold zDi
           rw [if_neg e9])
      · refine zp_al0 (q := 24) dX9_digitAt_23 rfl ?_
        refine zf_getG (v := 515) 0 (o0) (hX.1) rfl fdX9_9 (q := 27) dX9_digitAt_24 rfl rfl ?_
        refine zp_il1 (q := 28) dX9_digitAt_27 rfl ?_
        refine zf_cald (v := zCh9 L p) (o1) (zTx_g hX (by omega) (by omega)) (q := 29) dX9_digitAt_28 rfl (by omega) (by omega) ?_
        refine zr_bipush (q := 31) dX9_digitAt_29 rfl (z_in_of rfl) (by decide +kernel) ?_
        refine zr_icmp_le (q := 36) (q2 := 34) dX9_digitAt_31 (by decide) rfl (fun h31 => ?_) (fun h31 => ?_)
        · refine zp_al0 (q := 37) dX9_digitAt_36 rfl ?_
          refine zf_getG (v := 515) 0 (o0) (hX.1) rfl fdX9_9 (q := 40) dX9_digitAt_37 rfl rfl ?_
          refine zp_il1 (q := 41) dX9_digitAt_40 rfl ?_
          refine zf_cald (v := zCh9 L p) (o1) (zTx_g hX (by omega) (by omega)) (q := 42) dX9_digitAt_41 rfl (by omega) (by omega) ?_
          refine zr_bipush (q := 44) dX9_digitAt_42 rfl (z_in_of rfl) (by decide +kernel) ?_
          refine zr_isub (q := 45) dX9_digitAt_44 rfl (fun hA hB => by unfold z_in at hA hB ⊢; omega) ?_
          refine zr_ireturn dX9_digitAt_45 rfl (z_fit_i _) ?_
          first
          | (have e9 : 48 ≤ zCh9 L p ∧ zCh9 L p ≤ 57 := by omega
             refine ⟨?_, rfl, rfl⟩
             unfold zDi
             rw [if_pos e9])
          | (have e9 : ¬ (48 ≤ zCh9 L p ∧ zCh9 L p ≤ 57) := by omega
             refine ⟨?_, rfl, rfl⟩
             unfold zDi
             rw [if_neg e9])
          | (have e8 := zCh9_out (L := L) (p := p) (by omega)
             have e9 : ¬ (48 ≤ zCh9 L p ∧ zCh9 L p ≤ 57) := by omega
             refine ⟨?_, rfl, rfl⟩
             unfold zDi
             rw [if_neg e9])
        · refine zr_iconst (q := 35) dX9_digitAt_34 rfl (z_in_of rfl) ?_
          refine zr_ireturn dX9_digitAt_35 rfl (z_fit_i _) ?_
          first
          | (have e9 : 48 ≤ zCh9 L p ∧ zCh9 L p ≤ 57 := by omega
             refine ⟨?_, rfl, rfl⟩
             unfold zDi
             rw [if_pos e9])
          | (have e9 : ¬ (48 ≤ zCh9 L p ∧ zCh9 L p ≤ 57) := by omega
             refine ⟨?_, rfl, rfl⟩
             unfold zDi
             rw [if_neg e9])
          | (have e8 := zCh9_out (L := L) (p := p) (by omega)
             have e9 : ¬ (48 ≤ zCh9 L p ∧ zCh9 L p ≤ 57) := by omega
             refine ⟨?_, rfl, rfl⟩
             unfold zDi
             rw [if_neg e9])
theorem s_X7_accept (H : zRh M L) {p x : Int} (hp : M 513 1 = p) (h0 : 0 ≤ p) (h1 : p ≤ 60) (hx : 0 ≤ x) (hc : zCh9 L p = x) : z_Call mX7_accept zF [(1, 513), (0, x)] M (zpF 0 1 (z_up M 513 1 (p + 1))) := by
  refine z_enter (k := 0) rfl rfl rfl ?_
  refine zp_al0 (q := 1) dX7_accept_0 rfl ?_
  refine zf_getG (v := 514) 0 (k513) (H.1) rfl fdX7_12 (q := 4) dX7_accept_1 rfl rfl ?_
  refine zp_al0 (q := 5) dX7_accept_4 rfl ?_
  refine zf_getG (v := p) 1 (k513) (hp) rfl fdX7_18 (q := 8) dX7_accept_5 rfl rfl ?_
  refine zp_il1 (q := 9) dX7_accept_8 rfl ?_
  refine zf_callV2 (k514) (s_X9_hasAt H.2.2.1 H.2.2.2 hx) mtX9_hasAt wiX9_hasAt weX9_hasAt wlX7_98 (q := 12) dX7_accept_9 rfl rfl rfl rfl rfl rfl rfl (fun r S9 M9 h8 hP => ?_) (fun k S9 M9 hP => (z_no hP.1 rfl).elim)
  obtain ⟨rfl, rfl, h9⟩ := hP
  subst M9
  rw [if_pos hc]
  refine zr_if_ne (q := 17) (q2 := 15) dX7_accept_12 (by decide) rfl (fun h12 => ?_) (fun h12 => ?_)
  · refine zp_al0 (q := 18) dX7_accept_17 rfl ?_
    refine zr_dup (q := 19) dX7_accept_18 rfl (Or.inr rfl) ?_
    refine zf_getG (v := p) 1 (k513) (hp) rfl fdX7_18 (q := 22) dX7_accept_19 rfl rfl ?_
    refine zr_iconst (q := 23) dX7_accept_22 rfl (z_in_of rfl) ?_
    refine zr_iadd (q := 24) dX7_accept_23 rfl (fun hA hB => by unfold z_in at hA hB ⊢; omega) ?_
    refine zf_putG 1 (k513) rfl fpX7_18 (q := 27) dX7_accept_24 rfl rfl (by decide) (z_fit_i _) ?_
    refine zr_iconst (q := 28) dX7_accept_27 rfl (z_in_of rfl) ?_
    refine zr_ireturn dX7_accept_28 rfl (z_fit_z (by decide)) ?_
    exact ⟨rfl, rfl, rfl⟩
  · exact absurd h12 (by decide)
theorem s_X7_accept_x (H : zRh M L) {p x : Int} (hp : M 513 1 = p) (hx : 0 ≤ x) (hc : zCh9 L p ≠ x) : z_Call mX7_accept zF [(1, 513), (0, x)] M (zpF 0 0 M) := by
  refine z_enter (k := 0) rfl rfl rfl ?_
  refine zp_al0 (q := 1) dX7_accept_0 rfl ?_
  refine zf_getG (v := 514) 0 (k513) (H.1) rfl fdX7_12 (q := 4) dX7_accept_1 rfl rfl ?_
  refine zp_al0 (q := 5) dX7_accept_4 rfl ?_
  refine zf_getG (v := p) 1 (k513) (hp) rfl fdX7_18 (q := 8) dX7_accept_5 rfl rfl ?_
  refine zp_il1 (q := 9) dX7_accept_8 rfl ?_
  refine zf_callV2 (k514) (s_X9_hasAt H.2.2.1 H.2.2.2 hx) mtX9_hasAt wiX9_hasAt weX9_hasAt wlX7_98 (q := 12) dX7_accept_9 rfl rfl rfl rfl rfl rfl rfl (fun r S9 M9 h8 hP => ?_) (fun k S9 M9 hP => (z_no hP.1 rfl).elim)
  obtain ⟨rfl, rfl, h9⟩ := hP
  subst M9
  rw [if_neg hc]
  refine zr_if_ne (q := 17) (q2 := 15) dX7_accept_12 (by decide) rfl (fun h12 => ?_) (fun h12 => ?_)
  · exact absurd rfl h12
  · refine zr_iconst (q := 16) dX7_accept_15 rfl (z_in_of rfl) ?_
    refine zr_ireturn dX7_accept_16 rfl (z_fit_z (by decide)) ?_
    exact ⟨rfl, rfl, rfl⟩
/-- a number has been read into place k -/
def zNr (M M' : zM) (p k v : Int) : Prop := zRk9 M M' ∧ M' 513 1 = p ∧ M' 513 2 = M 513 2 ∧ M' 513 4 = k + 1 ∧ M' 516 k = v ∧ ∀ j, j ≠ k → M' 516 j = M 516 j
theorem s_X7_readNumber (H : zRh M L) {p k d : Int} (hp : M 513 1 = p) (h0 : 0 ≤ p) (h1 : p ≤ 60) (hk : M 513 4 = k) (k0 : 0 ≤ k) (k1 : k < 30) (hd : 48 ≤ zCh9 L p ∧ zCh9 L p ≤ 57) : z_Call mX7_readNumber zF [(1, 513), (0, d)] M (fun r S' M' => r = (0, 1) ∧ S' = zF ∧ zNr M M' (p + zNl (zCh9 L) p d) k (zNv (zCh9 L) p d)) := by
  have hdi : zDi (zCh9 L) p = zCh9 L p - 48 := if_pos hd
  refine z_enter (k := 2) rfl rfl rfl ?_
  refine zp_al0 (q := 1) dX7_readNumber_0 rfl ?_
  refine zf_getG (v := 514) 0 (k513) (H.1) rfl fdX7_12 (q := 4) dX7_readNumber_1 rfl rfl ?_
  refine zp_al0 (q := 5) dX7_readNumber_4 rfl ?_
  refine zf_getG (v := p) 1 (k513) (hp) rfl fdX7_18 (q := 8) dX7_readNumber_5 rfl rfl ?_
  refine zf_callV1 (k514) (s_X9_digitAt H.2.2.1 H.2.2.2) mtX9_digitAt wiX9_digitAt weX9_digitAt wlX7_105 (q := 11) dX7_readNumber_8 rfl rfl rfl rfl rfl rfl rfl (fun r S9 M9 h8 hP => ?_) (fun k S9 M9 hP => (z_no hP.1 rfl).elim)
  obtain ⟨rfl, rfl, h9⟩ := hP
  subst M9
  rw [hdi]
  refine zp_is2 (q := 12) dX7_readNumber_11 rfl rfl rfl ?_
  refine zp_il2 (q := 13) dX7_readNumber_12 rfl ?_
  refine zr_iconst (q := 14) dX7_readNumber_13 rfl (z_in_of rfl) ?_
  refine zr_icmp_eq (q := 29) (q2 := 17) dX7_readNumber_14 (by decide) rfl (fun h14 => ?_) (fun h14 => ?_)
  · exact absurd h14 (by omega)
  · refine zp_al0 (q := 18) dX7_readNumber_17 rfl ?_
    refine zf_getG (v := k) 4 (k513) (hk) rfl fdX7_35 (q := 21) dX7_readNumber_18 rfl rfl ?_
    refine zp_al0 (q := 22) dX7_readNumber_21 rfl ?_
    refine zf_getG (v := 516) 3 (k513) (H.2.1) rfl fdX7_31 (q := 25) dX7_readNumber_22 rfl rfl ?_
    refine zr_alenI (n := 30) (q := 26)  k516.1 k516.2.1 k516.2.2 (by decide) dX7_readNumber_25 rfl ?_
    refine zr_icmp_lt (q := 31) (q2 := 29) dX7_readNumber_26 (by decide) rfl (fun h26 => ?_) (fun h26 => ?_)
    · refine zp_al0 (q := 32) dX7_readNumber_31 rfl ?_
      refine zr_dup (q := 33) dX7_readNumber_32 rfl (Or.inr rfl) ?_
      refine zf_getG (v := p) 1 (k513) (hp) rfl fdX7_18 (q := 36) dX7_readNumber_33 rfl rfl ?_
      refine zr_iconst (q := 37) dX7_readNumber_36 rfl (z_in_of rfl) ?_
      refine zr_iadd (q := 38) dX7_readNumber_37 rfl (fun hA hB => by unfold z_in at hA hB ⊢; omega) ?_
      refine zf_putG 1 (k513) rfl fpX7_18 (q := 41) dX7_readNumber_38 rfl rfl (by decide) (z_fit_i _) ?_
      refine zp_al0 (q := 42) dX7_readNumber_41 rfl ?_
      refine zf_getG (v := 514) 0 (k513) (by rw [z_up_sl (by decide)]; exact H.1) rfl fdX7_12 (q := 45) dX7_readNumber_42 rfl rfl ?_
      refine zp_al0 (q := 46) dX7_readNumber_45 rfl ?_
      refine zf_getG (v := p + 1) 1 (k513) (z_up_eq) rfl fdX7_18 (q := 49) dX7_readNumber_46 rfl rfl ?_
      refine zf_callV1 (k514) (s_X9_digitAt (M := z_up M 513 1 (p + 1)) (p := p + 1) (H.2.2.1.of (z_up_ne (by decide)) (z_up_ne (by decide))) H.2.2.2) mtX9_digitAt wiX9_digitAt weX9_digitAt wlX7_105 (q := 52) dX7_readNumber_49 rfl rfl rfl rfl rfl rfl rfl (fun r S9 M9 h8 hP => ?_) (fun k S9 M9 hP => (z_no hP.1 rfl).elim)
      obtain ⟨rfl, rfl, h9⟩ := hP
      subst M9
      refine zp_is3 (q := 53) dX7_readNumber_52 rfl rfl rfl ?_
      refine zp_il1 (q := 54) dX7_readNumber_53 rfl ?_
      refine zr_iconst (q := 55) dX7_readNumber_54 rfl (z_in_of rfl) ?_
      refine zr_icmp_ne (q := 80) (q2 := 58) dX7_readNumber_55 (by decide) rfl (fun h55 => ?_) (fun h55 => ?_)
      · refine zp_al0 (q := 81) dX7_readNumber_80 rfl ?_
        refine zf_getG (v := 516) 3 (k513) (by first | exact (by rw [z_up_sl (by decide)]; exact H.2.1) | exact (by rw [z_up_sl (by decide), z_up_sl (by decide)]; exact H.2.1)) rfl fdX7_31 (q := 84) dX7_readNumber_81 rfl rfl ?_
        refine zp_al0 (q := 85) dX7_readNumber_84 rfl ?_
        refine zf_getG (v := k) 4 (k513) (by first | exact (by rw [z_up_sl (by decide)]; exact hk) | exact (by rw [z_up_sl (by decide), z_up_sl (by decide)]; exact hk)) rfl fdX7_35 (q := 88) dX7_readNumber_85 rfl rfl ?_
        refine zp_il2 (q := 89) dX7_readNumber_88 rfl ?_
        refine zf_iast (k516) (q := 90) dX7_readNumber_89 rfl (by omega) (by omega) ?_
        refine zp_al0 (q := 91) dX7_readNumber_90 rfl ?_
        refine zr_dup (q := 92) dX7_readNumber_91 rfl (Or.inr rfl) ?_
        refine zf_getG (v := k) 4 (k513) (by first | exact (by rw [z_up_ne (by decide), z_up_sl (by decide)]; exact hk) | exact (by rw [z_up_ne (by decide), z_up_sl (by decide), z_up_sl (by decide)]; exact hk)) rfl fdX7_35 (q := 95) dX7_readNumber_92 rfl rfl ?_
        refine zr_iconst (q := 96) dX7_readNumber_95 rfl (z_in_of rfl) ?_
        refine zr_iadd (q := 97) dX7_readNumber_96 rfl (fun hA hB => by unfold z_in at hA hB ⊢; omega) ?_
        refine zf_putG 4 (k513) rfl fpX7_35 (q := 100) dX7_readNumber_97 rfl rfl (by decide) (z_fit_i _) ?_
        refine zr_iconst (q := 101) dX7_readNumber_100 rfl (z_in_of rfl) ?_
        refine zr_ireturn dX7_readNumber_101 rfl (z_fit_z (by decide)) ?_
        first
        | (have e2 : d = 2 ∧ 48 ≤ zCh9 L (p + 1) ∧ zCh9 L (p + 1) ≤ 57 := by omega
           refine ⟨rfl, rfl, (zRk9.u (by decide) (by decide)).t ((zRk9.u (by decide) (by decide)).t (zRk9.n.t (zRk9.u (by decide) (by decide)))), ?_, ?_, z_up_eq, ?_, fun j j0 => ?_⟩
           · rw [z_up_sl (by decide), z_up_ne (by decide), z_up_eq]
             unfold zNl
             rw [if_pos e2]
             omega
           · rw [z_up_sl (by decide), z_up_ne (by decide), z_up_sl (by decide), z_up_sl (by decide)]
           · rw [z_up_ne (by decide), z_up_eq]
             unfold zNv
             rw [if_pos e2]
             omega
           · rw [z_up_ne (by decide), z_up_sl j0, z_up_ne (by decide), z_up_ne (by decide)])
        | (have e2 : ¬ (d = 2 ∧ 48 ≤ zCh9 L (p + 1) ∧ zCh9 L (p + 1) ≤ 57) := by omega
           refine ⟨rfl, rfl, (zRk9.u (by decide) (by decide)).t (zRk9.n.t (zRk9.u (by decide) (by decide))), ?_, ?_, z_up_eq, ?_, fun j j0 => ?_⟩
           · rw [z_up_sl (by decide), z_up_ne (by decide), z_up_eq]
             unfold zNl
             rw [if_neg e2]
           · rw [z_up_sl (by decide), z_up_ne (by decide), z_up_sl (by decide)]
           · rw [z_up_ne (by decide), z_up_eq]
             unfold zNv
             rw [if_neg e2]
           · rw [z_up_ne (by decide), z_up_sl j0, z_up_ne (by decide)])
      · refine zp_il3 (q := 59) dX7_readNumber_58 rfl ?_
        refine zr_iconst (q := 60) dX7_readNumber_59 rfl (z_in_of rfl) ?_
        have hdj : zDi (zCh9 L) (p + 1) = if 48 ≤ zCh9 L (p + 1) ∧ zCh9 L (p + 1) ≤ 57 then zCh9 L (p + 1) - 48 else -1 := rfl
        refine zr_icmp_eq (q := 80) (q2 := 63) dX7_readNumber_60 (by decide) rfl (fun h60 => ?_) (fun h60 => ?_)
        · refine zp_al0 (q := 81) dX7_readNumber_80 rfl ?_
          refine zf_getG (v := 516) 3 (k513) (by first | exact (by rw [z_up_sl (by decide)]; exact H.2.1) | exact (by rw [z_up_sl (by decide), z_up_sl (by decide)]; exact H.2.1)) rfl fdX7_31 (q := 84) dX7_readNumber_81 rfl rfl ?_
          refine zp_al0 (q := 85) dX7_readNumber_84 rfl ?_
          refine zf_getG (v := k) 4 (k513) (by first | exact (by rw [z_up_sl (by decide)]; exact hk) | exact (by rw [z_up_sl (by decide), z_up_sl (by decide)]; exact hk)) rfl fdX7_35 (q := 88) dX7_readNumber_85 rfl rfl ?_
          refine zp_il2 (q := 89) dX7_readNumber_88 rfl ?_
          refine zf_iast (k516) (q := 90) dX7_readNumber_89 rfl (by omega) (by omega) ?_
          refine zp_al0 (q := 91) dX7_readNumber_90 rfl ?_
          refine zr_dup (q := 92) dX7_readNumber_91 rfl (Or.inr rfl) ?_
          refine zf_getG (v := k) 4 (k513) (by first | exact (by rw [z_up_ne (by decide), z_up_sl (by decide)]; exact hk) | exact (by rw [z_up_ne (by decide), z_up_sl (by decide), z_up_sl (by decide)]; exact hk)) rfl fdX7_35 (q := 95) dX7_readNumber_92 rfl rfl ?_
          refine zr_iconst (q := 96) dX7_readNumber_95 rfl (z_in_of rfl) ?_
          refine zr_iadd (q := 97) dX7_readNumber_96 rfl (fun hA hB => by unfold z_in at hA hB ⊢; omega) ?_
          refine zf_putG 4 (k513) rfl fpX7_35 (q := 100) dX7_readNumber_97 rfl rfl (by decide) (z_fit_i _) ?_
          refine zr_iconst (q := 101) dX7_readNumber_100 rfl (z_in_of rfl) ?_
          refine zr_ireturn dX7_readNumber_101 rfl (z_fit_z (by decide)) ?_
          first
          | (have e2 : d = 2 ∧ 48 ≤ zCh9 L (p + 1) ∧ zCh9 L (p + 1) ≤ 57 := by omega
             refine ⟨rfl, rfl, (zRk9.u (by decide) (by decide)).t ((zRk9.u (by decide) (by decide)).t (zRk9.n.t (zRk9.u (by decide) (by decide)))), ?_, ?_, z_up_eq, ?_, fun j j0 => ?_⟩
             · rw [z_up_sl (by decide), z_up_ne (by decide), z_up_eq]
               unfold zNl
               rw [if_pos e2]
               omega
             · rw [z_up_sl (by decide), z_up_ne (by decide), z_up_sl (by decide), z_up_sl (by decide)]
             · rw [z_up_ne (by decide), z_up_eq]
               unfold zNv
               rw [if_pos e2]
               omega
             · rw [z_up_ne (by decide), z_up_sl j0, z_up_ne (by decide), z_up_ne (by decide)])
          | (have e2 : ¬ (d = 2 ∧ 48 ≤ zCh9 L (p + 1) ∧ zCh9 L (p + 1) ≤ 57) := by omega
             refine ⟨rfl, rfl, (zRk9.u (by decide) (by decide)).t (zRk9.n.t (zRk9.u (by decide) (by decide))), ?_, ?_, z_up_eq, ?_, fun j j0 => ?_⟩
             · rw [z_up_sl (by decide), z_up_ne (by decide), z_up_eq]
               unfold zNl
               rw [if_neg e2]
             · rw [z_up_sl (by decide), z_up_ne (by decide), z_up_sl (by decide)]
             · rw [z_up_ne (by decide), z_up_eq]
               unfold zNv
               rw [if_neg e2]
             · rw [z_up_ne (by decide), z_up_sl j0, z_up_ne (by decide)])
        · refine zr_bipush (q := 65) dX7_readNumber_63 rfl (z_in_of rfl) (by decide +kernel) ?_
          refine zp_il2 (q := 66) dX7_readNumber_65 rfl ?_
          refine zr_imul (q := 67) dX7_readNumber_66 rfl (fun hA hB => by unfold z_in at hA hB ⊢; omega) ?_
          refine zp_il3 (q := 68) dX7_readNumber_67 rfl ?_
          have hdr : zDi (zCh9 L) (p + 1) ≤ 9 := by omega
          refine zr_iadd (q := 69) dX7_readNumber_68 rfl (fun hA hB => by unfold z_in at hA hB ⊢; omega) ?_
          refine zp_is2 (q := 70) dX7_readNumber_69 rfl rfl rfl ?_
          refine zp_al0 (q := 71) dX7_readNumber_70 rfl ?_
          refine zr_dup (q := 72) dX7_readNumber_71 rfl (Or.inr rfl) ?_
          refine zf_getG (v := p + 1) 1 (k513) (z_up_eq) rfl fdX7_18 (q := 75) dX7_readNumber_72 rfl rfl ?_
          refine zr_iconst (q := 76) dX7_readNumber_75 rfl (z_in_of rfl) ?_
          refine zr_iadd (q := 77) dX7_readNumber_76 rfl (fun hA hB => by unfold z_in at hA hB ⊢; omega) ?_
          refine zf_putG 1 (k513) rfl fpX7_18 (q := 80) dX7_readNumber_77 rfl rfl (by decide) (z_fit_i _) ?_
          refine zp_al0 (q := 81) dX7_readNumber_80 rfl ?_
          refine zf_getG (v := 516) 3 (k513) (by first | exact (by rw [z_up_sl (by decide)]; exact H.2.1) | exact (by rw [z_up_sl (by decide), z_up_sl (by decide)]; exact H.2.1)) rfl fdX7_31 (q := 84) dX7_readNumber_81 rfl rfl ?_
          refine zp_al0 (q := 85) dX7_readNumber_84 rfl ?_
          refine zf_getG (v := k) 4 (k513) (by first | exact (by rw [z_up_sl (by decide)]; exact hk) | exact (by rw [z_up_sl (by decide), z_up_sl (by decide)]; exact hk)) rfl fdX7_35 (q := 88) dX7_readNumber_85 rfl rfl ?_
          refine zp_il2 (q := 89) dX7_readNumber_88 rfl ?_
          refine zf_iast (k516) (q := 90) dX7_readNumber_89 rfl (by omega) (by omega) ?_
          refine zp_al0 (q := 91) dX7_readNumber_90 rfl ?_
          refine zr_dup (q := 92) dX7_readNumber_91 rfl (Or.inr rfl) ?_
          refine zf_getG (v := k) 4 (k513) (by first | exact (by rw [z_up_ne (by decide), z_up_sl (by decide)]; exact hk) | exact (by rw [z_up_ne (by decide), z_up_sl (by decide), z_up_sl (by decide)]; exact hk)) rfl fdX7_35 (q := 95) dX7_readNumber_92 rfl rfl ?_
          refine zr_iconst (q := 96) dX7_readNumber_95 rfl (z_in_of rfl) ?_
          refine zr_iadd (q := 97) dX7_readNumber_96 rfl (fun hA hB => by unfold z_in at hA hB ⊢; omega) ?_
          refine zf_putG 4 (k513) rfl fpX7_35 (q := 100) dX7_readNumber_97 rfl rfl (by decide) (z_fit_i _) ?_
          refine zr_iconst (q := 101) dX7_readNumber_100 rfl (z_in_of rfl) ?_
          refine zr_ireturn dX7_readNumber_101 rfl (z_fit_z (by decide)) ?_
          first
          | (have e2 : d = 2 ∧ 48 ≤ zCh9 L (p + 1) ∧ zCh9 L (p + 1) ≤ 57 := by omega
             refine ⟨rfl, rfl, (zRk9.u (by decide) (by decide)).t ((zRk9.u (by decide) (by decide)).t (zRk9.n.t (zRk9.u (by decide) (by decide)))), ?_, ?_, z_up_eq, ?_, fun j j0 => ?_⟩
             · rw [z_up_sl (by decide), z_up_ne (by decide), z_up_eq]
               unfold zNl
               rw [if_pos e2]
               omega
             · rw [z_up_sl (by decide), z_up_ne (by decide), z_up_sl (by decide), z_up_sl (by decide)]
             · rw [z_up_ne (by decide), z_up_eq]
               unfold zNv
               rw [if_pos e2]
               omega
             · rw [z_up_ne (by decide), z_up_sl j0, z_up_ne (by decide), z_up_ne (by decide)])
          | (have e2 : ¬ (d = 2 ∧ 48 ≤ zCh9 L (p + 1) ∧ zCh9 L (p + 1) ≤ 57) := by omega
             refine ⟨rfl, rfl, (zRk9.u (by decide) (by decide)).t (zRk9.n.t (zRk9.u (by decide) (by decide))), ?_, ?_, z_up_eq, ?_, fun j j0 => ?_⟩
             · rw [z_up_sl (by decide), z_up_ne (by decide), z_up_eq]
               unfold zNl
               rw [if_neg e2]
             · rw [z_up_sl (by decide), z_up_ne (by decide), z_up_sl (by decide)]
             · rw [z_up_ne (by decide), z_up_eq]
               unfold zNv
               rw [if_neg e2]
             · rw [z_up_ne (by decide), z_up_sl j0, z_up_ne (by decide)])
    · exact absurd h26 (by omega)
theorem s_X7_readNumber_x (H : zRh M L) {p d : Int} (hp : M 513 1 = p) (hd : ¬ (48 ≤ zCh9 L p ∧ zCh9 L p ≤ 57)) : z_Call mX7_readNumber zF [(1, 513), (0, d)] M (zpF 0 0 M) := by
  have hdi : zDi (zCh9 L) p = -1 := if_neg hd
  refine z_enter (k := 2) rfl rfl rfl ?_
  refine zp_al0 (q := 1) dX7_readNumber_0 rfl ?_
  refine zf_getG (v := 514) 0 (k513) (H.1) rfl fdX7_12 (q := 4) dX7_readNumber_1 rfl rfl ?_
  refine zp_al0 (q := 5) dX7_readNumber_4 rfl ?_
  refine zf_getG (v := p) 1 (k513) (hp) rfl fdX7_18 (q := 8) dX7_readNumber_5 rfl rfl ?_
  refine zf_callV1 (k514) (s_X9_digitAt H.2.2.1 H.2.2.2) mtX9_digitAt wiX9_digitAt weX9_digitAt wlX7_105 (q := 11) dX7_readNumber_8 rfl rfl rfl rfl rfl rfl rfl (fun r S9 M9 h8 hP => ?_) (fun k S9 M9 hP => (z_no hP.1 rfl).elim)
  obtain ⟨rfl, rfl, h9⟩ := hP
  subst M9
  rw [hdi]
  refine zp_is2 (q := 12) dX7_readNumber_11 rfl rfl rfl ?_
  refine zp_il2 (q := 13) dX7_readNumber_12 rfl ?_
  refine zr_iconst (q := 14) dX7_readNumber_13 rfl (z_in_of rfl) ?_
  refine zr_icmp_eq (q := 29) (q2 := 17) dX7_readNumber_14 (by decide) rfl (fun h14 => ?_) (fun h14 => ?_)
  · refine zr_iconst (q := 30) dX7_readNumber_29 rfl (z_in_of rfl) ?_
    refine zr_ireturn dX7_readNumber_30 rfl (z_fit_z (by decide)) ?_
    exact ⟨rfl, rfl, rfl⟩
  · exact absurd rfl h14
/-- a parameter has been read -/
def zPr (M M' : zM) (c : Int → Int) (p k d : Int) : Prop := zRk9 M M' ∧ M' 513 1 = zPe c p d ∧ M' 513 2 = M 513 2 ∧ M' 513 4 = k + (if d = 0 then 0 else 1) ∧ (d ≠ 0 → M' 516 k = zNv c (p + 1) d) ∧ ∀ j, j ≠ k → M' 516 j = M 516 j
theorem s_X7_readParameter (H : zRh M L) {p k d : Int} (hp : M 513 1 = p) (h0 : 0 ≤ p) (hk : M 513 4 = k) (k0 : 0 ≤ k) (k1 : k < 30) (hd : zPo (zCh9 L) p d) : z_Call mX7_readParameter zF [(1, 513), (0, d)] M (fun r S' M' => r = (0, 1) ∧ S' = zF ∧ zPr M M' (zCh9 L) p k d) := by
  by_cases hd0 : d = 0
  · subst hd0
    refine z_enter (k := 0) rfl rfl rfl ?_
    refine zp_il1 (q := 1) dX7_readParameter_0 rfl ?_
    refine zr_if_eq (q := 21) (q2 := 4) dX7_readParameter_1 (by decide) rfl (fun h1 => ?_) (fun h1 => ?_)
    · refine zr_iconst (q := 22) dX7_readParameter_21 rfl (z_in_of rfl) ?_
      refine zr_goto (q := 26) dX7_readParameter_22 (by decide) ?_
      refine zr_ireturn dX7_readParameter_26 rfl (z_fit_z (by decide)) ?_
      exact ⟨rfl, rfl, zRk9.r M, by rw [hp]; rfl, rfl, by rw [if_pos rfl, hk, Int.add_zero], fun h => absurd rfl h, fun _ _ => rfl⟩
    · exact absurd rfl h1
  · unfold zPo at hd
    have hd2 : zCh9 L p = 32 ∧ 48 ≤ zCh9 L (p + 1) ∧ zCh9 L (p + 1) ≤ 57 := by omega
    have hlt := zCh9_lt (by rw [hd2.1]; decide) H.2.2.2
    have H1 : zRh (z_up M 513 1 (p + 1)) L := (zRk9.u (by decide) (by decide)).h H
    refine z_enter (k := 0) rfl rfl rfl ?_
    refine zp_il1 (q := 1) dX7_readParameter_0 rfl ?_
    refine zr_if_eq (q := 21) (q2 := 4) dX7_readParameter_1 (by decide) rfl (fun h1 => ?_) (fun h1 => ?_)
    · exact absurd h1 hd0
    · refine zp_al0 (q := 5) dX7_readParameter_4 rfl ?_
      refine zr_bipush (q := 7) dX7_readParameter_5 rfl (z_in_of rfl) (by decide +kernel) ?_
      refine zf_callV1 (k513) (s_X7_accept H hp h0 (by omega) (by decide) hd2.1) mtX7_accept wiX7_accept weX7_accept wlX7_48 (q := 10) dX7_readParameter_7 rfl rfl rfl rfl rfl rfl rfl (fun r S9 M9 h8 hP => ?_) (fun k S9 M9 hP => (z_no hP.1 rfl).elim)
      obtain ⟨rfl, rfl, h9⟩ := hP
      subst M9
      refine zr_if_eq (q := 25) (q2 := 13) dX7_readParameter_10 (by decide) rfl (fun h10 => ?_) (fun h10 => ?_)
      · exact absurd h10 (by decide)
      · refine zp_al0 (q := 14) dX7_readParameter_13 rfl ?_
        refine zp_il1 (q := 15) dX7_readParameter_14 rfl ?_
        refine zf_callV1 (k513) (s_X7_readNumber (p := p + 1) (k := k) H1 z_up_eq (by omega) (by omega) ((z_up_sl (by decide)).trans hk) k0 k1 hd2.2) mtX7_readNumber wiX7_readNumber weX7_readNumber wlX7_102 (q := 18) dX7_readParameter_15 rfl rfl rfl rfl rfl rfl rfl (fun r S9 M9 h8 hP => ?_) (fun k S9 M9 hP => (z_no hP.1 rfl).elim)
        obtain ⟨rfl, rfl, x1, x2, x3, x4, x5, x6⟩ := hP
        refine zr_if_eq (q := 25) (q2 := 21) dX7_readParameter_18 (by decide) rfl (fun h18 => ?_) (fun h18 => ?_)
        · exact absurd h18 (by decide)
        · refine zr_iconst (q := 22) dX7_readParameter_21 rfl (z_in_of rfl) ?_
          refine zr_goto (q := 26) dX7_readParameter_22 (by decide) ?_
          refine zr_ireturn dX7_readParameter_26 rfl (z_fit_z (by decide)) ?_
          refine ⟨rfl, rfl, (zRk9.u (by decide) (by decide)).t x1, ?_, x3.trans (z_up_sl (by decide)), by rw [if_neg hd0]; exact x4, fun _ => x5, fun j j0 => (x6 j j0).trans (congrFun (z_up_ne (by decide)) j)⟩
          rw [x2]
          unfold zPe
          rw [if_neg hd0, if_pos hd2.1, if_pos hd2.2]
theorem s_X7_readParameter_x (H : zRh M L) {p d : Int} (hp : M 513 1 = p) (h0 : 0 ≤ p) (hd : ¬ zPo (zCh9 L) p d) : z_Call mX7_readParameter zF [(1, 513), (0, d)] M (fun r S' M' => r = (0, 0) ∧ S' = zF ∧ zRk9 M M' ∧ M' 513 1 = zPe (zCh9 L) p d) := by
  unfold zPo at hd
  have hd0 : d ≠ 0 := by omega
  by_cases hc : zCh9 L p = 32
  · have hlt := zCh9_lt (by rw [hc]; decide) H.2.2.2
    have hd2 : ¬ (48 ≤ zCh9 L (p + 1) ∧ zCh9 L (p + 1) ≤ 57) := by omega
    have H1 : zRh (z_up M 513 1 (p + 1)) L := (zRk9.u (by decide) (by decide)).h H
    refine z_enter (k := 0) rfl rfl rfl ?_
    refine zp_il1 (q := 1) dX7_readParameter_0 rfl ?_
    refine zr_if_eq (q := 21) (q2 := 4) dX7_readParameter_1 (by decide) rfl (fun h1 => ?_) (fun h1 => ?_)
    · exact absurd h1 hd0
    · refine zp_al0 (q := 5) dX7_readParameter_4 rfl ?_
      refine zr_bipush (q := 7) dX7_readParameter_5 rfl (z_in_of rfl) (by decide +kernel) ?_
      refine zf_callV1 (k513) (s_X7_accept H hp h0 (by omega) (by decide) hc) mtX7_accept wiX7_accept weX7_accept wlX7_48 (q := 10) dX7_readParameter_7 rfl rfl rfl rfl rfl rfl rfl (fun r S9 M9 h8 hP => ?_) (fun k S9 M9 hP => (z_no hP.1 rfl).elim)
      obtain ⟨rfl, rfl, h9⟩ := hP
      subst M9
      refine zr_if_eq (q := 25) (q2 := 13) dX7_readParameter_10 (by decide) rfl (fun h10 => ?_) (fun h10 => ?_)
      · exact absurd h10 (by decide)
      · refine zp_al0 (q := 14) dX7_readParameter_13 rfl ?_
        refine zp_il1 (q := 15) dX7_readParameter_14 rfl ?_
        refine zf_callV1 (k513) (s_X7_readNumber_x (p := p + 1) H1 z_up_eq hd2) mtX7_readNumber wiX7_readNumber weX7_readNumber wlX7_102 (q := 18) dX7_readParameter_15 rfl rfl rfl rfl rfl rfl rfl (fun r S9 M9 h8 hP => ?_) (fun k S9 M9 hP => (z_no hP.1 rfl).elim)
        obtain ⟨rfl, rfl, h9⟩ := hP
        subst M9
        refine zr_if_eq (q := 25) (q2 := 21) dX7_readParameter_18 (by decide) rfl (fun h18 => ?_) (fun h18 => ?_)
        · refine zr_iconst (q := 26) dX7_readParameter_25 rfl (z_in_of rfl) ?_
          refine zr_ireturn dX7_readParameter_26 rfl (z_fit_z (by decide)) ?_
          refine ⟨rfl, rfl, zRk9.u (by decide) (by decide), ?_⟩
          rw [z_up_eq]
          unfold zPe
          rw [if_neg hd0, if_pos hc, if_neg hd2]
        · exact absurd rfl h18
  · refine z_enter (k := 0) rfl rfl rfl ?_
    refine zp_il1 (q := 1) dX7_readParameter_0 rfl ?_
    refine zr_if_eq (q := 21) (q2 := 4) dX7_readParameter_1 (by decide) rfl (fun h1 => ?_) (fun h1 => ?_)
    · exact absurd h1 hd0
    · refine zp_al0 (q := 5) dX7_readParameter_4 rfl ?_
      refine zr_bipush (q := 7) dX7_readParameter_5 rfl (z_in_of rfl) (by decide +kernel) ?_
      refine zf_callV1 (k513) (s_X7_accept_x H hp (by decide) hc) mtX7_accept wiX7_accept weX7_accept wlX7_48 (q := 10) dX7_readParameter_7 rfl rfl rfl rfl rfl rfl rfl (fun r S9 M9 h8 hP => ?_) (fun k S9 M9 hP => (z_no hP.1 rfl).elim)
      obtain ⟨rfl, rfl, h9⟩ := hP
      subst M9
      refine zr_if_eq (q := 25) (q2 := 13) dX7_readParameter_10 (by decide) rfl (fun h10 => ?_) (fun h10 => ?_)
      · refine zr_iconst (q := 26) dX7_readParameter_25 rfl (z_in_of rfl) ?_
        refine zr_ireturn dX7_readParameter_26 rfl (z_fit_z (by decide)) ?_
        refine ⟨rfl, rfl, zRk9.r M, ?_⟩
        rw [hp]
        unfold zPe
        rw [if_neg hd0, if_neg hc]
      · exact absurd rfl h10
/-- j further winds have been read -/
def zFr (M M' : zM) (c : Int → Int) (p k j : Int) : Prop := zRk9 M M' ∧ M' 513 1 = p + 2 * j ∧ M' 513 2 = M 513 2 ∧ M' 513 4 = k + j ∧ (∀ i, 0 ≤ i → i < j → M' 516 (k + i) = c (p + 2 * i + 1) - 48) ∧ ∀ i, i < k → M' 516 i = M 516 i
theorem zFr.s {M M1 M2 : zM} {c : Int → Int} {p k j : Int} (h : zFr M M1 c p k j) (j0 : 0 ≤ j) (h1 : zNr (z_up M1 513 1 (p + 2 * j + 1)) M2 (p + 2 * j + 1 + 1) (k + j) (c (p + 2 * j + 1) - 48)) : zFr M M2 c p k (j + 1) := by
  obtain ⟨a1, a2, a3, a4, a5, a6⟩ := h
  obtain ⟨b1, b2, b3, b4, b5, b6⟩ := h1
  have b7 : ∀ i, i ≠ k + j → M2 516 i = M1 516 i := fun i hi => (b6 i hi).trans (congrFun (z_up_ne (by decide)) i)
  refine ⟨a1.t ((zRk9.u (by decide) (by decide)).t b1), by rw [b2]; omega, (b3.trans (z_up_sl (by decide))).trans a3, by rw [b4]; omega, fun i i0 i1 => ?_, fun i hi => (b7 i (by omega)).trans (a6 i hi)⟩
  by_cases e : i = j
  · rw [e]
    exact b5
  · rw [b7 (k + i) (by omega)]
    exact a5 i i0 (by omega)
theorem s_X7_readFurtherWinds_l (H : zRh M L) {p k f : Int} (hf : f = zFw9 (zCh9 L) p) (f1 : 0 ≤ f ∧ f < 60) (h0 : 0 ≤ p) (h1 : p + 2 * f ≤ 60) (k0 : 0 ≤ k) (k1 : 2 * k ≤ p) {bc bs : Nat} {Q : zV → zS → zM → Prop}
    (hy : zCh9 L (p + 2 * f) ≠ 62 → ∀ M', zFr M M' (zCh9 L) p k f → Q (0, 1) zF M') (hn : zCh9 L (p + 2 * f) = 62 → ∀ M', zRk9 M M' → M' 513 1 = p + 2 * f + 1 → Q (0, 0) zF M') : ∀ (m : Nat) (j : Int) (M' : zM), 0 ≤ j → j ≤ f → f - j < m → zFr M M' (zCh9 L) p k j →
    z_Ex mX7_readFurtherWinds zF 2 [(1, 513), (0, j)] [] M' bc bs Q := by
  intro m
  induction m with
  | zero => intro j M' a1 a2 a3; omega
  | succ m ih =>
    intro j M' a1 a2 a3 hI
    obtain ⟨i1, i2, i3, i4, i5, i6⟩ := id hI
    have H' := i1.h H
    by_cases ej : j < f
    · have e1 := zFm_in (zCh9 L) 60 p j a1 (by rw [hf] at ej; exact ej)
      have H1 : zRh (z_up M' 513 1 (p + 2 * j + 1)) L := (zRk9.u (by decide) (by decide)).h H'
      have hnl : zNl (zCh9 L) (p + 2 * j + 1) 1 = 1 := if_neg (fun h => absurd h.1 (by decide))
      have hnv : zNv (zCh9 L) (p + 2 * j + 1) 1 = zCh9 L (p + 2 * j + 1) - 48 := if_neg (fun h => absurd h.1 (by decide))
      have sA := s_X7_readNumber (p := p + 2 * j + 1) (k := k + j) (d := 1) H1 z_up_eq (by omega) (by omega) ((z_up_sl (by decide)).trans i4) (by omega) (by omega) e1.2
      rw [hnl, hnv] at sA
      refine zp_il1 (q := 3) dX7_readFurtherWinds_2 rfl ?_
      refine zr_bipush (q := 5) dX7_readFurtherWinds_3 rfl (z_in_of rfl) (by decide +kernel) ?_
      refine zr_icmp_ge (q := 35) (q2 := 8) dX7_readFurtherWinds_5 (by decide) rfl (fun h5 => ?_) (fun h5 => ?_)
      · exact absurd h5 (by omega)
      · refine zp_al0 (q := 9) dX7_readFurtherWinds_8 rfl ?_
        refine zr_bipush (q := 11) dX7_readFurtherWinds_9 rfl (z_in_of rfl) (by decide +kernel) ?_
        refine zf_callV1 (k513) (s_X7_accept H' i2 (by omega) (by omega) (by decide) e1.1) mtX7_accept wiX7_accept weX7_accept wlX7_48 (q := 14) dX7_readFurtherWinds_11 rfl rfl rfl rfl rfl rfl rfl (fun r S9 M9 h8 hP => ?_) (fun k S9 M9 hP => (z_no hP.1 rfl).elim)
        obtain ⟨rfl, rfl, h9⟩ := hP
        subst M9
        refine zr_if_ne (q := 19) (q2 := 17) dX7_readFurtherWinds_14 (by decide) rfl (fun h14 => ?_) (fun h14 => ?_)
        · refine zp_al0 (q := 20) dX7_readFurtherWinds_19 rfl ?_
          refine zr_iconst (q := 21) dX7_readFurtherWinds_20 rfl (z_in_of rfl) ?_
          refine zf_callV1 (k513) (sA) mtX7_readNumber wiX7_readNumber weX7_readNumber wlX7_102 (q := 24) dX7_readFurtherWinds_21 rfl rfl rfl rfl rfl rfl rfl (fun r S9 M9 h8 hP => ?_) (fun k S9 M9 hP => (z_no hP.1 rfl).elim)
          obtain ⟨rfl, rfl, x1⟩ := hP
          refine zr_if_ne (q := 29) (q2 := 27) dX7_readFurtherWinds_24 (by decide) rfl (fun h24 => ?_) (fun h24 => ?_)
          · refine zp_inc1 (q := 32) dX7_readFurtherWinds_29 rfl rfl rfl (fun hA => by unfold z_in at hA ⊢; omega) ?_
            refine zr_goto (q := 2) dX7_readFurtherWinds_32 (by decide) ?_
            exact ih (j + 1) M9 (by omega) (by omega) (by omega) (hI.s a1 x1)
          · exact absurd h24 (by decide)
        · exact absurd h14 (by decide)
    · have ej2 : j = f := by omega
      subst ej2
      have e1 := zFm_step (zCh9 L) 60 p (by have : zFm (zCh9 L) 60 p = j := hf.symm; omega)
      rw [show zFm (zCh9 L) 60 p = j from hf.symm] at e1
      by_cases e2 : zCh9 L (p + 2 * j) = 62
      · have H1 : zRh (z_up M' 513 1 (p + 2 * j + 1)) L := (zRk9.u (by decide) (by decide)).h H'
        refine zp_il1 (q := 3) dX7_readFurtherWinds_2 rfl ?_
        refine zr_bipush (q := 5) dX7_readFurtherWinds_3 rfl (z_in_of rfl) (by decide +kernel) ?_
        refine zr_icmp_ge (q := 35) (q2 := 8) dX7_readFurtherWinds_5 (by decide) rfl (fun h5 => ?_) (fun h5 => ?_)
        · exact absurd h5 (by omega)
        · refine zp_al0 (q := 9) dX7_readFurtherWinds_8 rfl ?_
          refine zr_bipush (q := 11) dX7_readFurtherWinds_9 rfl (z_in_of rfl) (by decide +kernel) ?_
          refine zf_callV1 (k513) (s_X7_accept H' i2 (by omega) (by omega) (by decide) e2) mtX7_accept wiX7_accept weX7_accept wlX7_48 (q := 14) dX7_readFurtherWinds_11 rfl rfl rfl rfl rfl rfl rfl (fun r S9 M9 h8 hP => ?_) (fun k S9 M9 hP => (z_no hP.1 rfl).elim)
          obtain ⟨rfl, rfl, h9⟩ := hP
          subst M9
          refine zr_if_ne (q := 19) (q2 := 17) dX7_readFurtherWinds_14 (by decide) rfl (fun h14 => ?_) (fun h14 => ?_)
          · refine zp_al0 (q := 20) dX7_readFurtherWinds_19 rfl ?_
            refine zr_iconst (q := 21) dX7_readFurtherWinds_20 rfl (z_in_of rfl) ?_
            refine zf_callV1 (k513) (s_X7_readNumber_x (p := p + 2 * j + 1) H1 z_up_eq (fun h => e1 ⟨e2, h⟩)) mtX7_readNumber wiX7_readNumber weX7_readNumber wlX7_102 (q := 24) dX7_readFurtherWinds_21 rfl rfl rfl rfl rfl rfl rfl (fun r S9 M9 h8 hP => ?_) (fun k S9 M9 hP => (z_no hP.1 rfl).elim)
            obtain ⟨rfl, rfl, h9⟩ := hP
            subst M9
            refine zr_if_ne (q := 29) (q2 := 27) dX7_readFurtherWinds_24 (by decide) rfl (fun h24 => ?_) (fun h24 => ?_)
            · exact absurd rfl h24
            · refine zr_iconst (q := 28) dX7_readFurtherWinds_27 rfl (z_in_of rfl) ?_
              refine zr_ireturn dX7_readFurtherWinds_28 rfl (z_fit_z (by decide)) ?_
              exact hn e2 _ (i1.t (zRk9.u (by decide) (by decide))) z_up_eq
          · exact absurd h14 (by decide)
      · skip
        refine zp_il1 (q := 3) dX7_readFurtherWinds_2 rfl ?_
        refine zr_bipush (q := 5) dX7_readFurtherWinds_3 rfl (z_in_of rfl) (by decide +kernel) ?_
        refine zr_icmp_ge (q := 35) (q2 := 8) dX7_readFurtherWinds_5 (by decide) rfl (fun h5 => ?_) (fun h5 => ?_)
        · exact absurd h5 (by omega)
        · refine zp_al0 (q := 9) dX7_readFurtherWinds_8 rfl ?_
          refine zr_bipush (q := 11) dX7_readFurtherWinds_9 rfl (z_in_of rfl) (by decide +kernel) ?_
          refine zf_callV1 (k513) (s_X7_accept_x H' i2 (by decide) e2) mtX7_accept wiX7_accept weX7_accept wlX7_48 (q := 14) dX7_readFurtherWinds_11 rfl rfl rfl rfl rfl rfl rfl (fun r S9 M9 h8 hP => ?_) (fun k S9 M9 hP => (z_no hP.1 rfl).elim)
          obtain ⟨rfl, rfl, h9⟩ := hP
          subst M9
          refine zr_if_ne (q := 19) (q2 := 17) dX7_readFurtherWinds_14 (by decide) rfl (fun h14 => ?_) (fun h14 => ?_)
          · exact absurd rfl h14
          · refine zr_iconst (q := 18) dX7_readFurtherWinds_17 rfl (z_in_of rfl) ?_
            refine zr_ireturn dX7_readFurtherWinds_18 rfl (z_fit_z (by decide)) ?_
            exact hy e2 _ hI
theorem zFr.z {M : zM} {c : Int → Int} {p k : Int} (hp : M 513 1 = p) (hk : M 513 4 = k) : zFr M M c p k 0 := ⟨zRk9.r M, by rw [hp]; omega, rfl, by rw [hk]; omega, fun i i0 i1 => by omega, fun _ _ => rfl⟩
theorem s_X7_readFurtherWinds (H : zRh M L) {p k : Int} (f1 : 0 ≤ zFw9 (zCh9 L) p ∧ zFw9 (zCh9 L) p < 60) (hp : M 513 1 = p) (h0 : 0 ≤ p) (h1 : p + 2 * zFw9 (zCh9 L) p ≤ 60) (hk : M 513 4 = k) (k0 : 0 ≤ k) (k1 : 2 * k ≤ p) (hc : zCh9 L (p + 2 * zFw9 (zCh9 L) p) ≠ 62) :
    z_Call mX7_readFurtherWinds zF [(1, 513)] M (fun r S' M' => r = (0, 1) ∧ S' = zF ∧ zFr M M' (zCh9 L) p k (zFw9 (zCh9 L) p)) := by
  refine z_enter (k := 1) rfl rfl rfl ?_
  refine zr_iconst (q := 1) dX7_readFurtherWinds_0 rfl (z_in_of rfl) ?_
  refine zp_is1 (q := 2) dX7_readFurtherWinds_1 rfl rfl rfl ?_
  exact s_X7_readFurtherWinds_l H (k := k) rfl f1 h0 h1 k0 k1 (fun _ M' x => ⟨rfl, rfl, x⟩) (fun h => absurd h hc) 61 0 M (by omega) (by omega) (by omega) (zFr.z hp hk)
theorem s_X7_readFurtherWinds_x (H : zRh M L) {p k : Int} (f1 : 0 ≤ zFw9 (zCh9 L) p ∧ zFw9 (zCh9 L) p < 60) (hp : M 513 1 = p) (h0 : 0 ≤ p) (h1 : p + 2 * zFw9 (zCh9 L) p ≤ 60) (hk : M 513 4 = k) (k0 : 0 ≤ k) (k1 : 2 * k ≤ p) (hc : zCh9 L (p + 2 * zFw9 (zCh9 L) p) = 62) :
    z_Call mX7_readFurtherWinds zF [(1, 513)] M (fun r S' M' => r = (0, 0) ∧ S' = zF ∧ zRk9 M M' ∧ M' 513 1 = p + 2 * zFw9 (zCh9 L) p + 1) := by
  refine z_enter (k := 1) rfl rfl rfl ?_
  refine zr_iconst (q := 1) dX7_readFurtherWinds_0 rfl (z_in_of rfl) ?_
  refine zp_is1 (q := 2) dX7_readFurtherWinds_1 rfl rfl rfl ?_
  exact s_X7_readFurtherWinds_l H (k := k) rfl f1 h0 h1 k0 k1 (fun h => absurd hc h) (fun _ M' x y => ⟨rfl, rfl, x, y⟩) 61 0 M (by omega) (by omega) (by omega) (zFr.z hp hk)
theorem zMt9_stop (c : Int → Int) : ∀ (w : List Int) (p : Int) (s : Nat), s ≤ w.length → (∀ j : Nat, j < s → c (p + j) = w.getD j 0) → (s = w.length ∨ c (p + s) ≠ w.getD s 0) → zMt9 c w p = s := by
  intro w
  induction w with
  | nil =>
    intro p s h _ _
    have : s = 0 := Nat.le_zero.mp h
    subst this
    rfl
  | cons x xs ih =>
    intro p s h hj hs
    unfold zMt9
    match s, h, hj, hs with
    | 0, h, hj, hs =>
      rcases hs with hs | hs
      · simp at hs
      · rw [if_neg (by
          intro e
          apply hs
          show c (p + ((0 : Nat) : Int)) = x
          rw [show p + ((0 : Nat) : Int) = p by omega]
          exact e)]
        rfl
    | s + 1, h, hj, hs =>
      have h0 := hj 0 (by omega)
      rw [show p + ((0 : Nat) : Int) = p by omega] at h0
      have h0x : c p = x := h0
      rw [if_pos h0x, ih (p + 1) s (Nat.le_of_succ_le_succ h) (fun j j1 => by
        have := hj (j + 1) (by omega)
        rw [show p + ((j + 1 : Nat) : Int) = p + 1 + (j : Int) by omega] at this
        exact this) (by
        rcases hs with hs | hs
        · left
          simpa using hs
        · right
          rw [show p + ((s + 1 : Nat) : Int) = p + 1 + (s : Int) by omega] at hs
          exact hs)]
      omega
theorem s_X7_lettersRead_l (H : zRh M L) {p : Int} (hp : M 513 1 = p) (h0 : 0 ≤ p) (h1 : p ≤ 60) {k : Nat} {w : List Int} (hw : zStr k w) {bc bs : Nat} : ∀ (m : Nat) (s : Int), 0 ≤ s → s ≤ w.length → w.length - s < m → (∀ j : Nat, (j : Int) < s → zCh9 L (p + j) = w.getD j 0) →
    z_Ex mX7_lettersRead zF 2 [(1, 513), (1, -((100 + k : Nat) : Int)), (0, s)] [] M bc bs (zpF 0 (zMt9 (zCh9 L) w p) M) := by
  have hl := hw.2.1
  intro m
  induction m with
  | zero => intro s a1 a2 a3; omega
  | succ m ih =>
    intro s a1 a2 a3 hm
    refine zp_il2 (q := 3) dX7_lettersRead_2 rfl ?_
    refine zp_al1 (q := 4) dX7_lettersRead_3 rfl ?_
    refine zp_callK0 (k := 100 + k) rfl (by omega) (zk_sO hw.1) (s_J0_length_8abf5 hw) mtJ0_length_8abf5 wiJ0_length_8abf5 weJ0_length_8abf5 wlX7_89 (q := 7) dX7_lettersRead_4 rfl rfl rfl rfl rfl (fun r S9 M9 h8 hP => ?_) (fun k S9 M9 hP => (z_no hP.1 rfl).elim)
    obtain ⟨rfl, rfl, h9⟩ := hP
    subst M9
    refine zr_icmp_ge (q := 37) (q2 := 10) dX7_lettersRead_7 (by decide) rfl (fun h7 => ?_) (fun h7 => ?_)
    · refine zp_il2 (q := 38) dX7_lettersRead_37 rfl ?_
      refine zr_ireturn dX7_lettersRead_38 rfl (z_fit_i _) ?_
      first
      | (have e9 : s = w.length := by omega
         exact ⟨by rw [zMt9_stop (zCh9 L) w p s.toNat (by omega) (fun j hj => hm j (by omega)) (Or.inl (by omega)), show ((s.toNat : Nat) : Int) = s by omega], rfl, rfl⟩)
      | (have hcs : zCh9 L (p + s) ≠ w.getD s.toNat 0 := by
           intro e
           rw [if_pos e] at h28
           exact absurd h28 (by decide)
         exact ⟨by rw [zMt9_stop (zCh9 L) w p s.toNat (by omega) (fun j hj => hm j (by omega)) (Or.inr (by rw [show ((s.toNat : Nat) : Int) = s by omega]; exact hcs)), show ((s.toNat : Nat) : Int) = s by omega], rfl, rfl⟩)
    · refine zp_al0 (q := 11) dX7_lettersRead_10 rfl ?_
      refine zf_getG (v := 514) 0 (k513) (H.1) rfl fdX7_12 (q := 14) dX7_lettersRead_11 rfl rfl ?_
      refine zp_al0 (q := 15) dX7_lettersRead_14 rfl ?_
      refine zf_getG (v := p) 1 (k513) (hp) rfl fdX7_18 (q := 18) dX7_lettersRead_15 rfl rfl ?_
      refine zp_il2 (q := 19) dX7_lettersRead_18 rfl ?_
      refine zr_iadd (q := 20) dX7_lettersRead_19 rfl (fun hA hB => by unfold z_in at hA hB ⊢; omega) ?_
      refine zp_al1 (q := 21) dX7_lettersRead_20 rfl ?_
      refine zp_il2 (q := 22) dX7_lettersRead_21 rfl ?_
      refine zp_callK1 (k := 100 + k) rfl (by omega) (zk_sO hw.1) (s_J0_charAt_5068e hw (i := s) a1 (by omega)) mtJ0_charAt_5068e wiJ0_charAt_5068e weJ0_charAt_5068e wlX7_94 (q := 25) dX7_lettersRead_22 rfl rfl rfl rfl rfl (fun r S9 M9 h8 hP => ?_) (fun k S9 M9 hP => (z_no hP.1 rfl).elim)
      obtain ⟨rfl, rfl, h9⟩ := hP
      subst M9
      have hb := hw.2.2.2.2 ⟨s.toNat, by omega⟩
      dsimp only at hb
      refine zf_callV2 (k514) (s_X9_hasAt H.2.2.1 H.2.2.2 hb.1) mtX9_hasAt wiX9_hasAt weX9_hasAt wlX7_98 (q := 28) dX7_lettersRead_25 rfl rfl rfl rfl rfl rfl rfl (fun r S9 M9 h8 hP => ?_) (fun k S9 M9 hP => (z_no hP.1 rfl).elim)
      obtain ⟨rfl, rfl, h9⟩ := hP
      subst M9
      refine zr_if_eq (q := 37) (q2 := 31) dX7_lettersRead_28 (by decide) rfl (fun h28 => ?_) (fun h28 => ?_)
      · refine zp_il2 (q := 38) dX7_lettersRead_37 rfl ?_
        refine zr_ireturn dX7_lettersRead_38 rfl (z_fit_i _) ?_
        first
        | (have e9 : s = w.length := by omega
           exact ⟨by rw [zMt9_stop (zCh9 L) w p s.toNat (by omega) (fun j hj => hm j (by omega)) (Or.inl (by omega)), show ((s.toNat : Nat) : Int) = s by omega], rfl, rfl⟩)
        | (have hcs : zCh9 L (p + s) ≠ w.getD s.toNat 0 := by
             intro e
             rw [if_pos e] at h28
             exact absurd h28 (by decide)
           exact ⟨by rw [zMt9_stop (zCh9 L) w p s.toNat (by omega) (fun j hj => hm j (by omega)) (Or.inr (by rw [show ((s.toNat : Nat) : Int) = s by omega]; exact hcs)), show ((s.toNat : Nat) : Int) = s by omega], rfl, rfl⟩)
      · refine zp_inc2 (q := 34) dX7_lettersRead_31 rfl rfl rfl (fun hA => by unfold z_in at hA ⊢; omega) ?_
        refine zr_goto (q := 2) dX7_lettersRead_34 (by decide) ?_
        have hcs : zCh9 L (p + s) = w.getD s.toNat 0 := by
          by_cases e : zCh9 L (p + s) = w.getD s.toNat 0
          · exact e
          · rw [if_neg e] at h28
            exact absurd rfl h28
        exact ih (s + 1) (by omega) (by omega) (by omega) (fun j hj => by
          by_cases e : (j : Int) = s
          · rw [e, hcs]
            congr 1
            omega
          · exact hm j (by omega))
theorem s_X7_lettersRead (H : zRh M L) {p : Int} (hp : M 513 1 = p) (h0 : 0 ≤ p) (h1 : p ≤ 60) {k : Nat} {w : List Int} (hw : zStr k w) : z_Call mX7_lettersRead zF [(1, 513), (1, -((100 + k : Nat) : Int))] M (zpF 0 (zMt9 (zCh9 L) w p) M) := by
  refine z_enter (k := 1) rfl rfl rfl ?_
  refine zr_iconst (q := 1) dX7_lettersRead_0 rfl (z_in_of rfl) ?_
  refine zp_is2 (q := 2) dX7_lettersRead_1 rfl rfl rfl ?_
  exact s_X7_lettersRead_l H hp h0 h1 hw (w.length + 1) 0 (by omega) (by omega) (by omega) (fun j hj => by omega)
theorem zWl_len {i : Nat} (hi : i < 8) : ((zWl.getD i []).length : Int) = zWn9 i := by
  match i, hi with
  | 0, _ => rfl
  | 1, _ => rfl
  | 2, _ => rfl
  | 3, _ => rfl
  | 4, _ => rfl
  | 5, _ => rfl
  | 6, _ => rfl
  | 7, _ => rfl
theorem zWn9_le {k : Nat} (h : k < 8) : zWn9 k ≤ 8 := by
  match k, h with
  | 0, _ => decide
  | 1, _ => decide
  | 2, _ => decide
  | 3, _ => decide
  | 4, _ => decide
  | 5, _ => decide
  | 6, _ => decide
  | 7, _ => decide
theorem zLg_rg (c : Int → Int) (p : Int) : ∀ k, k ≤ 8 → 0 ≤ zLg c p k ∧ zLg c p k ≤ 8 := by
  intro k
  induction k with
  | zero => intro _; exact ⟨by show (0 : Int) ≤ 0; omega, by show (0 : Int) ≤ 8; omega⟩
  | succ k ih =>
    intro h
    have i1 := ih (by omega)
    have h2 : zMk c p k ≤ 8 := by
      have a := (zMt9_range c (zWl.getD k []) p).2
      rw [zWl_len (show k < 8 by omega)] at a
      have b : zWn9 k ≤ 8 := by
        match k, (show k < 8 by omega) with
        | 0, _ => decide
        | 1, _ => decide
        | 2, _ => decide
        | 3, _ => decide
        | 4, _ => decide
        | 5, _ => decide
        | 6, _ => decide
        | 7, _ => decide
      exact Int.le_trans a b
    unfold zLg
    split <;> omega
theorem s_X7_readWord_l (H : zRh M L) {p : Int} (hp : M 513 1 = p) (h0 : 0 ≤ p) (h1 : p ≤ 60) {bc bs : Nat} {Q : zV → zS → zM → Prop} (hy : 0 ≤ zWw (zCh9 L) p → Q (0, 1) zF (z_up (z_up M 513 2 (-(11 + zWw (zCh9 L) p))) 513 1 (p + zWa (zCh9 L) p))) (hn : zWw (zCh9 L) p < 0 → Q (0, 0) zF (z_up M 513 1 (p + zWa (zCh9 L) p))) :
    ∀ (m : Nat) (i : Int) (v3 : zV), 0 ≤ i → i ≤ 8 → 8 - i < m → (∀ j : Nat, (j : Int) < i → zMk (zCh9 L) p j ≠ zWn9 j) →
    z_Ex mX7_readWord zF 4 [(1, 513), (0, zLg (zCh9 L) p i.toNat), (0, i), v3] [] M bc bs Q := by
  intro m
  induction m with
  | zero => intro i v3 a1 a2 a3; omega
  | succ m ih =>
    intro i v3 a1 a2 a3 hm
    have hlg := zLg_rg (zCh9 L) p i.toNat (by omega)
    by_cases ei : i < 8
    · have hi8 : i.toNat < 8 := by omega
      have hmk : zMt9 (zCh9 L) (zWl.getD i.toNat []) p = zMk (zCh9 L) p i.toNat := rfl
      have hlen := zWl_len hi8
      have hls : zLg (zCh9 L) p (i + 1).toNat = if zLg (zCh9 L) p i.toNat < zMk (zCh9 L) p i.toNat then zMk (zCh9 L) p i.toNat else zLg (zCh9 L) p i.toNat := by
        rw [show (i + 1).toNat = i.toNat + 1 by omega]
        rfl
      have hst9 := zst_W hi8
      refine zp_il2 (q := 5) dX7_readWord_4 rfl ?_
      refine zr_getsN (v := (1, -19)) (Cn := "WindElection") (n := "WORDS") (d := "[LWindElection$Word;") (host := "WindElection") (fun C s h => zs_WS h) (fun _ => z_in_of rfl) (List.mem_of_getElem? (i := 1091) (by decide +kernel)) (q := 8) dX7_readWord_5 rfl ?_
      refine zr_tlen (q := 9) (k := 19) (N := 8) (ty := .object "WindElection$Word") (f := fun C j => .ref (C.2.1 (11 + j))) rfl (by decide) (by decide) (fun C s h => h.2.2.2.2.2.2.1) dX7_readWord_8 rfl ?_
      refine zr_icmp_ge (q := 73) (q2 := 12) dX7_readWord_9 (by decide) rfl (fun h9 => ?_) (fun h9 => ?_)
      · exact absurd h9 (by omega)
      · refine zp_al0 (q := 13) dX7_readWord_12 rfl ?_
        refine zr_getsN (v := (1, -19)) (Cn := "WindElection") (n := "WORDS") (d := "[LWindElection$Word;") (host := "WindElection") (fun C s h => zs_WS h) (fun _ => z_in_of rfl) (List.mem_of_getElem? (i := 1091) (by decide +kernel)) (q := 16) dX7_readWord_13 rfl ?_
        refine zp_il2 (q := 17) dX7_readWord_16 rfl ?_
        refine zr_wald (q := 18) dX7_readWord_17 rfl a1 ei ?_
        refine zr_getO (q := 21) (ref := "WindElection$Word") (k := 11 + i.toNat) (v := (1, -((100 + z_wl.getD i.toNat 0 : Nat) : Int))) (by omega) (by omega) (zk_wL a1 ei) (zok_r (by have := hst9.1; omega)) (z_all_in (i := 1700) (by decide +kernel) (by decide +kernel)) dX7_readWord_18 rfl ?_
        refine zf_callV1 (k513) (s_X7_lettersRead H hp h0 h1 hst9) mtX7_lettersRead wiX7_lettersRead weX7_lettersRead wlX7_79 (q := 24) dX7_readWord_21 rfl rfl rfl rfl rfl rfl rfl (fun r S9 M9 h8 hP => ?_) (fun k S9 M9 hP => (z_no hP.1 rfl).elim)
        obtain ⟨rfl, rfl, h9⟩ := hP
        subst M9
        rw [hmk]
        refine zp_is3 (q := 25) dX7_readWord_24 rfl rfl rfl ?_
        refine zp_il1 (q := 26) dX7_readWord_25 rfl ?_
        refine zp_il3 (q := 27) dX7_readWord_26 rfl ?_
        refine zr_mmax (z_all_in (i := 1145) (by decide +kernel) (by decide +kernel)) rfl rfl rfl dX7_readWord_27 rfl ?_
        rw [← hls]
        refine zp_is1 (q := 31) dX7_readWord_30 rfl rfl rfl ?_
        refine zp_il3 (q := 32) dX7_readWord_31 rfl ?_
        refine zr_getsN (v := (1, -19)) (Cn := "WindElection") (n := "WORDS") (d := "[LWindElection$Word;") (host := "WindElection") (fun C s h => zs_WS h) (fun _ => z_in_of rfl) (List.mem_of_getElem? (i := 1091) (by decide +kernel)) (q := 35) dX7_readWord_32 rfl ?_
        refine zp_il2 (q := 36) dX7_readWord_35 rfl ?_
        refine zr_wald (q := 37) dX7_readWord_36 rfl a1 ei ?_
        refine zr_getO (q := 40) (ref := "WindElection$Word") (k := 11 + i.toNat) (v := (1, -((100 + z_wl.getD i.toNat 0 : Nat) : Int))) (by omega) (by omega) (zk_wL a1 ei) (zok_r (by have := hst9.1; omega)) (z_all_in (i := 1700) (by decide +kernel) (by decide +kernel)) dX7_readWord_37 rfl ?_
        refine zp_callK0 (k := 100 + z_wl.getD i.toNat 0) rfl (by omega) (zk_sO hst9.1) (s_J0_length_8abf5 hst9) mtJ0_length_8abf5 wiJ0_length_8abf5 weJ0_length_8abf5 wlX7_89 (q := 43) dX7_readWord_40 rfl rfl rfl rfl rfl (fun r S9 M9 h8 hP => ?_) (fun k S9 M9 hP => (z_no hP.1 rfl).elim)
        obtain ⟨rfl, rfl, h9x⟩ := hP
        subst M9
        rw [hlen]
        refine zr_icmp_ne (q := 67) (q2 := 46) dX7_readWord_43 (by decide) rfl (fun h43 => ?_) (fun h43 => ?_)
        · refine zp_inc2 (q := 70) dX7_readWord_67 rfl rfl rfl (fun hA => by unfold z_in at hA ⊢; omega) ?_
          refine zr_goto (q := 4) dX7_readWord_70 (by decide) ?_
          exact ih (i + 1) _ (by omega) (by omega) (by omega) (fun j hj => by
            by_cases e : (j : Int) = i
            · rw [show j = i.toNat by omega]
              exact h43
            · exact hm j (by omega))
        · obtain ⟨w1, w2⟩ := zW_yes (zCh9 L) p hi8 (Classical.byContradiction h43)
          have w3 : zMk (zCh9 L) p i.toNat = zWa (zCh9 L) p := by
            rw [w2]
            exact Classical.byContradiction h43
          have w4 : i = zWw (zCh9 L) p := by omega
          rw [w3]
          have w5 := zWa_rg (zCh9 L) p
          have w7 := zWn9_le hi8
          have w6 : zWa (zCh9 L) p ≤ 8 := by omega
          refine zp_al0 (q := 47) dX7_readWord_46 rfl ?_
          refine zr_getsN (v := (1, -19)) (Cn := "WindElection") (n := "WORDS") (d := "[LWindElection$Word;") (host := "WindElection") (fun C s h => zs_WS h) (fun _ => z_in_of rfl) (List.mem_of_getElem? (i := 1091) (by decide +kernel)) (q := 50) dX7_readWord_47 rfl ?_
          refine zp_il2 (q := 51) dX7_readWord_50 rfl ?_
          refine zr_wald (q := 52) dX7_readWord_51 rfl a1 ei ?_
          refine zf_putG 2 (k513) rfl fpX7_28 (q := 55) dX7_readWord_52 rfl rfl (by decide) (z_fit_o _ _) ?_
          refine zp_al0 (q := 56) dX7_readWord_55 rfl ?_
          refine zr_dup (q := 57) dX7_readWord_56 rfl (Or.inr rfl) ?_
          refine zf_getG (v := p) 1 (k513) (by rw [z_up_sl (by decide)]; exact hp) rfl fdX7_18 (q := 60) dX7_readWord_57 rfl rfl ?_
          refine zp_il3 (q := 61) dX7_readWord_60 rfl ?_
          refine zr_iadd (q := 62) dX7_readWord_61 rfl (fun hA hB => by unfold z_in at hA hB ⊢; omega) ?_
          refine zf_putG 1 (k513) rfl fpX7_18 (q := 65) dX7_readWord_62 rfl rfl (by decide) (z_fit_i _) ?_
          refine zr_iconst (q := 66) dX7_readWord_65 rfl (z_in_of rfl) ?_
          refine zr_ireturn dX7_readWord_66 rfl (z_fit_z (by decide)) ?_
          rw [w4]
          exact hy (by omega)
    · have e8 : i = 8 := by omega
      subst e8
      obtain ⟨w1, w2⟩ := zW_no (zCh9 L) p (fun k hk => hm k (by omega))
      have w3 : zLg (zCh9 L) p (8 : Int).toNat = zWa (zCh9 L) p := w2.symm
      rw [w3]
      rw [w3] at hlg
      refine zp_il2 (q := 5) dX7_readWord_4 rfl ?_
      refine zr_getsN (v := (1, -19)) (Cn := "WindElection") (n := "WORDS") (d := "[LWindElection$Word;") (host := "WindElection") (fun C s h => zs_WS h) (fun _ => z_in_of rfl) (List.mem_of_getElem? (i := 1091) (by decide +kernel)) (q := 8) dX7_readWord_5 rfl ?_
      refine zr_tlen (q := 9) (k := 19) (N := 8) (ty := .object "WindElection$Word") (f := fun C j => .ref (C.2.1 (11 + j))) rfl (by decide) (by decide) (fun C s h => h.2.2.2.2.2.2.1) dX7_readWord_8 rfl ?_
      refine zr_icmp_ge (q := 73) (q2 := 12) dX7_readWord_9 (by decide) rfl (fun h9 => ?_) (fun h9 => ?_)
      · refine zp_al0 (q := 74) dX7_readWord_73 rfl ?_
        refine zr_dup (q := 75) dX7_readWord_74 rfl (Or.inr rfl) ?_
        refine zf_getG (v := p) 1 (k513) (hp) rfl fdX7_18 (q := 78) dX7_readWord_75 rfl rfl ?_
        refine zp_il1 (q := 79) dX7_readWord_78 rfl ?_
        refine zr_iadd (q := 80) dX7_readWord_79 rfl (fun hA hB => by unfold z_in at hA hB ⊢; omega) ?_
        refine zf_putG 1 (k513) rfl fpX7_18 (q := 83) dX7_readWord_80 rfl rfl (by decide) (z_fit_i _) ?_
        refine zr_iconst (q := 84) dX7_readWord_83 rfl (z_in_of rfl) ?_
        refine zr_ireturn dX7_readWord_84 rfl (z_fit_z (by decide)) ?_
        exact hn (by omega)
      · exact absurd (by omega) h9
theorem s_X7_readWord (H : zRh M L) {p : Int} (hp : M 513 1 = p) (h0 : 0 ≤ p) (h1 : p ≤ 60) (hw : 0 ≤ zWw (zCh9 L) p) : z_Call mX7_readWord zF [(1, 513)] M (zpF 0 1 (z_up (z_up M 513 2 (-(11 + zWw (zCh9 L) p))) 513 1 (p + zWa (zCh9 L) p))) := by
  refine z_enter (k := 3) rfl rfl rfl ?_
  refine zr_iconst (q := 1) dX7_readWord_0 rfl (z_in_of rfl) ?_
  refine zp_is1 (q := 2) dX7_readWord_1 rfl rfl rfl ?_
  refine zr_iconst (q := 3) dX7_readWord_2 rfl (z_in_of rfl) ?_
  refine zp_is2 (q := 4) dX7_readWord_3 rfl rfl rfl ?_
  exact s_X7_readWord_l H hp h0 h1 (fun _ => ⟨rfl, rfl, rfl⟩) (fun h => by omega) 9 0 _ (by omega) (by omega) (by omega) (fun j hj => by omega)
theorem s_X7_readWord_x (H : zRh M L) {p : Int} (hp : M 513 1 = p) (h0 : 0 ≤ p) (h1 : p ≤ 60) (hw : zWw (zCh9 L) p < 0) : z_Call mX7_readWord zF [(1, 513)] M (zpF 0 0 (z_up M 513 1 (p + zWa (zCh9 L) p))) := by
  refine z_enter (k := 3) rfl rfl rfl ?_
  refine zr_iconst (q := 1) dX7_readWord_0 rfl (z_in_of rfl) ?_
  refine zp_is1 (q := 2) dX7_readWord_1 rfl rfl rfl ?_
  refine zr_iconst (q := 3) dX7_readWord_2 rfl (z_in_of rfl) ?_
  refine zp_is2 (q := 4) dX7_readWord_3 rfl rfl rfl ?_
  exact s_X7_readWord_l H hp h0 h1 (fun h => by omega) (fun _ => ⟨rfl, rfl, rfl⟩) 9 0 _ (by omega) (by omega) (by omega) (fun j hj => by omega)
end ZRE
