/-! dep: 70 71 72 73 -/
/-! ===== the reference's reading of a text ===== -/
/-- the reference before a text -/
def zXh (M : zM) (L : List Int) : Prop := zHm M ∧ zTi9 M L ∧ L.length ≤ 60
/-- told has changed in [a, b) alone, the place is q, nothing else has changed -/
def zTo (M M' : zM) (a b q : Int) : Prop := (∀ z, z ≠ 517 → z ≠ 528 → M' z = M z) ∧ (∀ j, j ≠ 21 → M' 517 j = M 517 j) ∧ M' 517 21 = q ∧ ∀ j, j < a ∨ b ≤ j → M' 528 j = M 528 j
theorem zTo.h {M M' : zM} {a b q : Int} {L : List Int} (h : zTo M M' a b q) (H : zXh M L) : zXh M' L := by
  obtain ⟨h1, h2, h3⟩ := H
  refine ⟨?_, ⟨(h.2.1 9 (by decide)).trans h2.1, fun i hi => ?_⟩, h3⟩
  · unfold zHm at h1 ⊢
    rw [h.2.1 0 (by decide), h.2.1 1 (by decide), h.2.1 2 (by decide), h.2.1 3 (by decide), h.2.1 8 (by decide), h.2.1 12 (by decide), h.2.1 14 (by decide), h.2.1 15 (by decide), h.2.1 16 (by decide), h.2.1 17 (by decide), h.2.1 22 (by decide)]
    exact h1
  · rw [h.1 522 (by decide) (by decide)]
    exact h2.2 i hi
theorem zTi_g {M : zM} {L : List Int} (h : zTi9 M L) {p : Int} (h0 : 0 ≤ p) (h1 : p < L.length) : M 522 p = zCh9 L p := by
  have e := h.2 p.toNat (by omega)
  rw [show ((p.toNat : Nat) : Int) = p by omega] at e
  rw [zCh9_in h0 h1]
  exact e
theorem zTo.t {M M1 M2 : zM} {a b q a1 b1 q1 c d : Int} (h : zTo M M1 a b q) (h2 : zTo M1 M2 a1 b1 q1) (hj : ∀ j, j < c ∨ d ≤ j → (j < a ∨ b ≤ j) ∧ (j < a1 ∨ b1 ≤ j)) : zTo M M2 c d (M2 517 21) :=
  ⟨fun z x y => (h2.1 z x y).trans (h.1 z x y), fun j x => (h2.2.1 j x).trans (h.2.1 j x), rfl, fun j x => (h2.2.2.2 j (hj j x).2).trans (h.2.2.2 j (hj j x).1)⟩
theorem zTo.w {M M1 : zM} {a b q c d : Int} (h : zTo M M1 a b q) (hj : ∀ j, j < c ∨ d ≤ j → (j < a ∨ b ≤ j)) : zTo M M1 c d (M1 517 21) := ⟨h.1, h.2.1, rfl, fun j x => h.2.2.2 j (hj j x)⟩
theorem zTo.r (M : zM) {c d : Int} : zTo M M c d (M 517 21) := ⟨fun _ _ _ => rfl, fun _ _ => rfl, rfl, fun _ _ => rfl⟩
section ZRX
variable {M : zM} {L : List Int} {n : Int}
theorem s_X12_here (H : zXh M L) {p : Int} (hp : M 517 21 = p) (h0 : 0 ≤ p) : z_Call mX12_here zF [(1, 517)] M (zpF 0 (zCh9 L p) M) := by
  have Hm := H.1
  have hl := H.2.2
  refine z_enter (k := 0) rfl rfl rfl ?_
  refine zp_al0 (q := 1) dX12_here_0 rfl ?_
  refine zf_getG (v := p) 21 (k517) (hp) rfl fdX12_170 (q := 4) dX12_here_1 rfl rfl ?_
  refine zp_al0 (q := 5) dX12_here_4 rfl ?_
  refine zf_getG (v := L.length) 9 (k517) (H.2.1.1) rfl fdX12_167 (q := 8) dX12_here_5 rfl rfl ?_
  refine zr_icmp_ge (q := 23) (q2 := 11) dX12_here_8 (by decide) rfl (fun h8 => ?_) (fun h8 => ?_)
  · refine zr_iconst (q := 24) dX12_here_23 rfl (z_in_of rfl) ?_
    refine zr_ireturn dX12_here_24 rfl (z_fit_i _) ?_
    first
    | (have e9 : p < L.length := by omega
       exact ⟨rfl, rfl, rfl⟩)
    | (have e9 : ¬ (0 ≤ p ∧ p < L.length) := by omega
       rw [zCh9_out e9]
       exact ⟨rfl, rfl, rfl⟩)
  · refine zp_al0 (q := 12) dX12_here_11 rfl ?_
    refine zf_getG (v := 522) 8 (k517) (Hm.2.2.2.2.1) rfl fdX12_22 (q := 15) dX12_here_12 rfl rfl ?_
    refine zp_al0 (q := 16) dX12_here_15 rfl ?_
    refine zf_getG (v := p) 21 (k517) (hp) rfl fdX12_170 (q := 19) dX12_here_16 rfl rfl ?_
    refine zf_iald (v := zCh9 L p) (by first | assumption | exact k518 | exact k519 | exact k520 | exact k521 | exact k522 | exact k523 | exact k524 | exact k525 | exact k526 | exact k527 | exact k528 | exact k510 | exact k512 | exact k515 | exact k516 | exact k507 | exact k509 | exact k135 | exact k489 | exact k529 | exact k530) (zTi_g H.2.1 h0 (by omega)) (q := 20) dX12_here_19 rfl (by omega) (by omega) ?_
    refine zr_goto (q := 24) dX12_here_20 (by decide) ?_
    refine zr_ireturn dX12_here_24 rfl (z_fit_i _) ?_
    first
    | (have e9 : p < L.length := by omega
       exact ⟨rfl, rfl, rfl⟩)
    | (have e9 : ¬ (0 ≤ p ∧ p < L.length) := by omega
       rw [zCh9_out e9]
       exact ⟨rfl, rfl, rfl⟩)
theorem s_X12_skips (H : zXh M L) {p x : Int} (hp : M 517 21 = p) (h0 : 0 ≤ p) (h1 : p ≤ 61) (hx : 0 ≤ x) (hc : zCh9 L p = x) : z_Call mX12_skips zF [(1, 517), (0, x)] M (fun r S' M' => r = (0, 1) ∧ S' = zF ∧ zTo M M' 0 0 (p + 1)) := by
  refine z_enter (k := 0) rfl rfl rfl ?_
  refine zp_al0 (q := 1) dX12_skips_0 rfl ?_
  refine zf_callV0 (k517) (s_X12_here H hp h0) mtX12_here wiX12_here weX12_here wlX12_173 (q := 4) dX12_skips_1 rfl rfl rfl rfl rfl rfl rfl (fun r S9 M9 h8 hP => ?_) (fun k S9 M9 hP => (z_no hP.1 rfl).elim)
  obtain ⟨rfl, rfl, h9⟩ := hP
  subst M9
  refine zp_il1 (q := 5) dX12_skips_4 rfl ?_
  refine zr_icmp_eq (q := 10) (q2 := 8) dX12_skips_5 (by decide) rfl (fun h5 => ?_) (fun h5 => ?_)
  · refine zp_al0 (q := 11) dX12_skips_10 rfl ?_
    refine zr_dup (q := 12) dX12_skips_11 rfl (Or.inr rfl) ?_
    refine zf_getG (v := p) 21 (k517) (hp) rfl fdX12_170 (q := 15) dX12_skips_12 rfl rfl ?_
    refine zr_iconst (q := 16) dX12_skips_15 rfl (z_in_of rfl) ?_
    refine zr_iadd (q := 17) dX12_skips_16 rfl (fun hA hB => by unfold z_in at hA hB ⊢; omega) ?_
    refine zf_putG 21 (k517) rfl fpX12_170 (q := 20) dX12_skips_17 rfl rfl (by decide) (z_fit_i _) ?_
    refine zr_iconst (q := 21) dX12_skips_20 rfl (z_in_of rfl) ?_
    refine zr_ireturn dX12_skips_21 rfl (z_fit_z (by decide)) ?_
    exact ⟨rfl, rfl, fun z a b => z_up_ne a, fun j a => z_up_sl a, z_up_eq, fun j _ => by rw [z_up_ne (by decide)]⟩
  · exact absurd hc h5
theorem s_X12_skips_x (H : zXh M L) {p x : Int} (hp : M 517 21 = p) (h0 : 0 ≤ p) (hc : zCh9 L p ≠ x) : z_Call mX12_skips zF [(1, 517), (0, x)] M (zpF 0 0 M) := by
  refine z_enter (k := 0) rfl rfl rfl ?_
  refine zp_al0 (q := 1) dX12_skips_0 rfl ?_
  refine zf_callV0 (k517) (s_X12_here H hp h0) mtX12_here wiX12_here weX12_here wlX12_173 (q := 4) dX12_skips_1 rfl rfl rfl rfl rfl rfl rfl (fun r S9 M9 h8 hP => ?_) (fun k S9 M9 hP => (z_no hP.1 rfl).elim)
  obtain ⟨rfl, rfl, h9⟩ := hP
  subst M9
  refine zp_il1 (q := 5) dX12_skips_4 rfl ?_
  refine zr_icmp_eq (q := 10) (q2 := 8) dX12_skips_5 (by decide) rfl (fun h5 => ?_) (fun h5 => ?_)
  · exact absurd h5 hc
  · refine zr_iconst (q := 9) dX12_skips_8 rfl (z_in_of rfl) ?_
    refine zr_ireturn dX12_skips_9 rfl (z_fit_z (by decide)) ?_
    exact ⟨rfl, rfl, rfl⟩
theorem s_X12_isWord_l (H : zXh M L) {p i : Int} (h0 : 0 ≤ p) (h1 : p ≤ 60) {k : Nat} {w : List Int} (hw : zStr k w) {bc bs : Nat} {Q : zV → zS → zM → Prop}
    (hy : zMt9 (zCh9 L) w p = w.length → ∀ M', zTo M M' 0 0 (p + zMt9 (zCh9 L) w p) → Q (0, 1) zF M') (hn : zMt9 (zCh9 L) w p ≠ w.length → ∀ M', zTo M M' 0 0 (p + zMt9 (zCh9 L) w p) → Q (0, 0) zF M') :
    ∀ (m : Nat) (s : Int) (M' : zM), 0 ≤ s → s ≤ w.length → w.length - s < m → (∀ j : Nat, (j : Int) < s → zCh9 L (p + j) = w.getD j 0) → zTo M M' 0 0 (p + s) →
    z_Ex mX12_isWord zF 14 [(1, 517), (0, i), (1, -((100 + k : Nat) : Int)), (0, s)] [] M' bc bs Q := by
  have hl := hw.2.1
  intro m
  induction m with
  | zero => intro s M' a1 a2 a3; omega
  | succ m ih =>
    intro s M' a1 a2 a3 hm hI
    have H' := hI.h H
    by_cases es : s < w.length
    · have hb := hw.2.2.2.2 ⟨s.toNat, by omega⟩
      dsimp only at hb
      by_cases ec : zCh9 L (p + s) = w.getD s.toNat 0
      · have hps : p + s < 60 := zCh9_lt (by rw [ec]; omega) H.2.2
        refine zp_il3 (q := 15) dX12_isWord_14 rfl ?_
        refine zp_al2 (q := 16) dX12_isWord_15 rfl ?_
        refine zp_callK0 (k := 100 + k) rfl (by omega) (zk_sO hw.1) (s_J0_length_8abf5 hw) mtJ0_length_8abf5 wiJ0_length_8abf5 weJ0_length_8abf5 wlX12_179 (q := 19) dX12_isWord_16 rfl rfl rfl rfl rfl (fun r S9 M9 h8 hP => ?_) (fun k S9 M9 hP => (z_no hP.1 rfl).elim)
        obtain ⟨rfl, rfl, h9⟩ := hP
        subst M9
        refine zr_icmp_ge (q := 42) (q2 := 22) dX12_isWord_19 (by decide) rfl (fun h19 => ?_) (fun h19 => ?_)
        · exact absurd h19 (by omega)
        · refine zp_al0 (q := 23) dX12_isWord_22 rfl ?_
          refine zp_al2 (q := 24) dX12_isWord_23 rfl ?_
          refine zp_il3 (q := 25) dX12_isWord_24 rfl ?_
          refine zp_callK1 (k := 100 + k) rfl (by omega) (zk_sO hw.1) (s_J0_charAt_5068e hw (i := s) a1 (by omega)) mtJ0_charAt_5068e wiJ0_charAt_5068e weJ0_charAt_5068e wlX12_183 (q := 28) dX12_isWord_25 rfl rfl rfl rfl rfl (fun r S9 M9 h8 hP => ?_) (fun k S9 M9 hP => (z_no hP.1 rfl).elim)
          obtain ⟨rfl, rfl, h9⟩ := hP
          subst M9
          refine zf_callV1 (k517) (s_X12_skips H' hI.2.2.1 (by omega) (by omega) hb.1 ec) mtX12_skips wiX12_skips weX12_skips wlX12_187 (q := 31) dX12_isWord_28 rfl rfl rfl rfl rfl rfl rfl (fun r S9 M9 h8 hP => ?_) (fun k S9 M9 hP => (z_no hP.1 rfl).elim)
          obtain ⟨rfl, rfl, x1⟩ := hP
          refine zr_if_ne (q := 36) (q2 := 34) dX12_isWord_31 (by decide) rfl (fun h31 => ?_) (fun h31 => ?_)
          · refine zp_inc3 (q := 39) dX12_isWord_36 rfl rfl rfl (fun hA => by unfold z_in at hA ⊢; omega) ?_
            refine zr_goto (q := 14) dX12_isWord_39 (by decide) ?_
            refine ih (s + 1) M9 (by omega) (by omega) (by omega) (fun j hj => ?_) ⟨fun z a b => (x1.1 z a b).trans (hI.1 z a b), fun j a => (x1.2.1 j a).trans (hI.2.1 j a), x1.2.2.1.trans (by omega), fun j a => (x1.2.2.2 j a).trans (hI.2.2.2 j a)⟩
            by_cases e : (j : Int) = s
            · rw [e, ec]
              congr 1
              omega
            · exact hm j (by omega)
          · exact absurd (by decide) h31
      · have hz := zMt9_stop (zCh9 L) w p s.toNat (by omega) (fun j hj => hm j (by omega)) (Or.inr (by rw [show ((s.toNat : Nat) : Int) = s by omega]; exact ec))
        rw [show ((s.toNat : Nat) : Int) = s by omega] at hz
        rw [hz] at hn
        refine zp_il3 (q := 15) dX12_isWord_14 rfl ?_
        refine zp_al2 (q := 16) dX12_isWord_15 rfl ?_
        refine zp_callK0 (k := 100 + k) rfl (by omega) (zk_sO hw.1) (s_J0_length_8abf5 hw) mtJ0_length_8abf5 wiJ0_length_8abf5 weJ0_length_8abf5 wlX12_179 (q := 19) dX12_isWord_16 rfl rfl rfl rfl rfl (fun r S9 M9 h8 hP => ?_) (fun k S9 M9 hP => (z_no hP.1 rfl).elim)
        obtain ⟨rfl, rfl, h9⟩ := hP
        subst M9
        refine zr_icmp_ge (q := 42) (q2 := 22) dX12_isWord_19 (by decide) rfl (fun h19 => ?_) (fun h19 => ?_)
        · exact absurd h19 (by omega)
        · refine zp_al0 (q := 23) dX12_isWord_22 rfl ?_
          refine zp_al2 (q := 24) dX12_isWord_23 rfl ?_
          refine zp_il3 (q := 25) dX12_isWord_24 rfl ?_
          refine zp_callK1 (k := 100 + k) rfl (by omega) (zk_sO hw.1) (s_J0_charAt_5068e hw (i := s) a1 (by omega)) mtJ0_charAt_5068e wiJ0_charAt_5068e weJ0_charAt_5068e wlX12_183 (q := 28) dX12_isWord_25 rfl rfl rfl rfl rfl (fun r S9 M9 h8 hP => ?_) (fun k S9 M9 hP => (z_no hP.1 rfl).elim)
          obtain ⟨rfl, rfl, h9⟩ := hP
          subst M9
          refine zf_callV1 (k517) (s_X12_skips_x H' hI.2.2.1 (by omega) ec) mtX12_skips wiX12_skips weX12_skips wlX12_187 (q := 31) dX12_isWord_28 rfl rfl rfl rfl rfl rfl rfl (fun r S9 M9 h8 hP => ?_) (fun k S9 M9 hP => (z_no hP.1 rfl).elim)
          obtain ⟨rfl, rfl, h9⟩ := hP
          subst M9
          refine zr_if_ne (q := 36) (q2 := 34) dX12_isWord_31 (by decide) rfl (fun h31 => ?_) (fun h31 => ?_)
          · exact absurd rfl h31
          · refine zr_iconst (q := 35) dX12_isWord_34 rfl (z_in_of rfl) ?_
            refine zr_ireturn dX12_isWord_35 rfl (z_fit_z (by decide)) ?_
            exact hn (by omega) _ hI
    · have es2 : s = w.length := by omega
      have hz := zMt9_stop (zCh9 L) w p s.toNat (by omega) (fun j hj => hm j (by omega)) (Or.inl (by omega))
      rw [show ((s.toNat : Nat) : Int) = s by omega] at hz
      rw [hz] at hy
      refine zp_il3 (q := 15) dX12_isWord_14 rfl ?_
      refine zp_al2 (q := 16) dX12_isWord_15 rfl ?_
      refine zp_callK0 (k := 100 + k) rfl (by omega) (zk_sO hw.1) (s_J0_length_8abf5 hw) mtJ0_length_8abf5 wiJ0_length_8abf5 weJ0_length_8abf5 wlX12_179 (q := 19) dX12_isWord_16 rfl rfl rfl rfl rfl (fun r S9 M9 h8 hP => ?_) (fun k S9 M9 hP => (z_no hP.1 rfl).elim)
      obtain ⟨rfl, rfl, h9⟩ := hP
      subst M9
      refine zr_icmp_ge (q := 42) (q2 := 22) dX12_isWord_19 (by decide) rfl (fun h19 => ?_) (fun h19 => ?_)
      · refine zr_iconst (q := 43) dX12_isWord_42 rfl (z_in_of rfl) ?_
        refine zr_ireturn dX12_isWord_43 rfl (z_fit_z (by decide)) ?_
        exact hy es2 _ hI
      · exact absurd (by omega) h19
theorem s_X12_isWord_q (H : zXh M L) {p i K : Int} (hp : M 517 21 = p) (h0 : 0 ≤ p) (h1 : p ≤ 60) (hk : M 517 23 = K) (K0 : 0 ≤ K) (K1 : K ≤ 30) {k : Nat} {w : List Int} (hw : zStr k w) {Q : zV → zS → zM → Prop}
    (hy : zMt9 (zCh9 L) w p = w.length → ∀ M', zTo M M' (5 * K) (5 * K + 1) (p + zMt9 (zCh9 L) w p) → M' 528 (5 * K) = i → Q (0, 1) zF M') (hn : zMt9 (zCh9 L) w p ≠ w.length → ∀ M', zTo M M' (5 * K) (5 * K + 1) (p + zMt9 (zCh9 L) w p) → Q (0, 0) zF M') :
    z_Call mX12_isWord zF [(1, 517), (0, i), (1, -((100 + k : Nat) : Int))] M Q := by
  have Hm := H.1
  have T1 : zTo M (z_up M 528 (5 * K) i) (5 * K) (5 * K + 1) p := ⟨fun z a b => z_up_ne b, fun j a => by rw [z_up_ne (by decide)], by rw [z_up_ne (by decide)]; exact hp, fun j hj => z_up_sl (by omega)⟩
  have H1 := T1.h H
  refine z_enter (k := 1) rfl rfl rfl ?_
  refine zp_al0 (q := 1) dX12_isWord_0 rfl ?_
  refine zf_getG (v := 528) 22 (k517) (Hm.2.2.2.2.2.2.2.2.2.2) rfl fdX12_49 (q := 4) dX12_isWord_1 rfl rfl ?_
  refine zr_iconst (q := 5) dX12_isWord_4 rfl (z_in_of rfl) ?_
  refine zp_al0 (q := 6) dX12_isWord_5 rfl ?_
  refine zf_getG (v := K) 23 (k517) (hk) rfl fdX12_176 (q := 9) dX12_isWord_6 rfl rfl ?_
  refine zr_imul (q := 10) dX12_isWord_9 rfl (fun hA hB => by unfold z_in at hA hB ⊢; omega) ?_
  refine zp_il1 (q := 11) dX12_isWord_10 rfl ?_
  refine zf_iast (by first | assumption | exact k518 | exact k519 | exact k520 | exact k521 | exact k522 | exact k523 | exact k524 | exact k525 | exact k526 | exact k527 | exact k528 | exact k510 | exact k512 | exact k515 | exact k516 | exact k507 | exact k509 | exact k135 | exact k489 | exact k529 | exact k530) (q := 12) dX12_isWord_11 rfl (by omega) (by omega) ?_
  refine zr_iconst (q := 13) dX12_isWord_12 rfl (z_in_of rfl) ?_
  refine zp_is3 (q := 14) dX12_isWord_13 rfl rfl rfl ?_
  refine s_X12_isWord_l (M := z_up M 528 (5 * K) i) H1 h0 h1 hw (fun a M' b => ?_) (fun a M' b => ?_) (w.length + 1) 0 _ (by omega) (by omega) (by omega) (fun j hj => by omega) ⟨fun _ _ _ => rfl, fun _ _ => rfl, by rw [z_up_ne (by decide), hp]; omega, fun _ _ => rfl⟩
  · have t := T1.t b (c := 5 * K) (d := 5 * K + 1) (fun j hj => by omega)
    rw [b.2.2.1] at t
    exact hy a M' t (by rw [b.2.2.2 (5 * K) (by omega), z_up_eq])
  · have t := T1.t b (c := 5 * K) (d := 5 * K + 1) (fun j hj => by omega)
    rw [b.2.2.1] at t
    exact hn a M' t
theorem s_X12_isWord (H : zXh M L) {p i K : Int} (hp : M 517 21 = p) (h0 : 0 ≤ p) (h1 : p ≤ 60) (hk : M 517 23 = K) (K0 : 0 ≤ K) (K1 : K ≤ 30) {k : Nat} {w : List Int} (hw : zStr k w) (hm : zMt9 (zCh9 L) w p = w.length) :
    z_Call mX12_isWord zF [(1, 517), (0, i), (1, -((100 + k : Nat) : Int))] M (fun r S' M' => r = (0, 1) ∧ S' = zF ∧ zTo M M' (5 * K) (5 * K + 1) (p + zMt9 (zCh9 L) w p) ∧ M' 528 (5 * K) = i) :=
  s_X12_isWord_q H hp h0 h1 hk K0 K1 hw (fun _ M' x y => ⟨rfl, rfl, x, y⟩) (fun h => absurd hm h)
theorem s_X12_isWord_x (H : zXh M L) {p i K : Int} (hp : M 517 21 = p) (h0 : 0 ≤ p) (h1 : p ≤ 60) (hk : M 517 23 = K) (K0 : 0 ≤ K) (K1 : K ≤ 30) {k : Nat} {w : List Int} (hw : zStr k w) (hm : zMt9 (zCh9 L) w p ≠ w.length) :
    z_Call mX12_isWord zF [(1, 517), (0, i), (1, -((100 + k : Nat) : Int))] M (fun r S' M' => r = (0, 0) ∧ S' = zF ∧ zTo M M' (5 * K) (5 * K + 1) (p + zMt9 (zCh9 L) w p)) :=
  s_X12_isWord_q H hp h0 h1 hk K0 K1 hw (fun h => absurd h hm) (fun _ M' x => ⟨rfl, rfl, x⟩)
theorem s_X12_digits_s {pl d k : Int} (H : zXh M L) {p : Int} (hp : M 517 21 = p) (h0 : 0 ≤ p) (h : d ≤ k ∨ ¬ (48 ≤ zCh9 L p ∧ zCh9 L p ≤ 57)) {bc bs : Nat} {Q : zV → zS → zM → Prop} (hQ : Q (0, 1) zF M) : z_Ex mX12_digits zF 25 [(1, 517), (0, pl), (0, d), (0, k)] [] M bc bs Q := by
  by_cases e : d ≤ k
  · skip
    refine zp_il3 (q := 26) dX12_digits_25 rfl ?_
    refine zp_il2 (q := 27) dX12_digits_26 rfl ?_
    refine zr_icmp_ge (q := 83) (q2 := 30) dX12_digits_27 (by decide) rfl (fun h27 => ?_) (fun h27 => ?_)
    · refine zr_iconst (q := 84) dX12_digits_83 rfl (z_in_of rfl) ?_
      refine zr_ireturn dX12_digits_84 rfl (z_fit_z (by decide)) ?_
      exact hQ
    · exact absurd e (by omega)
  · have h2 : ¬ (48 ≤ zCh9 L p ∧ zCh9 L p ≤ 57) := by omega
    refine zp_il3 (q := 26) dX12_digits_25 rfl ?_
    refine zp_il2 (q := 27) dX12_digits_26 rfl ?_
    refine zr_icmp_ge (q := 83) (q2 := 30) dX12_digits_27 (by decide) rfl (fun h27 => ?_) (fun h27 => ?_)
    · exact absurd h27 (by omega)
    · refine zp_al0 (q := 31) dX12_digits_30 rfl ?_
      refine zf_callV0 (k517) (s_X12_here H hp h0) mtX12_here wiX12_here weX12_here wlX12_173 (q := 34) dX12_digits_31 rfl rfl rfl rfl rfl rfl rfl (fun r S9 M9 h8 hP => ?_) (fun k S9 M9 hP => (z_no hP.1 rfl).elim)
      obtain ⟨rfl, rfl, h9⟩ := hP
      subst M9
      refine zr_bipush (q := 36) dX12_digits_34 rfl (z_in_of rfl) (by decide +kernel) ?_
      refine zr_bipush (q := 38) dX12_digits_36 rfl (z_in_of rfl) (by decide +kernel) ?_
      refine zp_callS3 (s_X12_in) mtX12_in wtX12_in wlX12_66 (q := 41) dX12_digits_38 rfl rfl rfl rfl rfl (fun r S9 M9 h8 hP => ?_) (fun k S9 M9 hP => (z_no hP.1 rfl).elim)
      obtain ⟨rfl, rfl, h9⟩ := hP
      subst M9
      rw [if_neg h2]
      refine zr_if_eq (q := 83) (q2 := 44) dX12_digits_41 (by decide) rfl (fun h41 => ?_) (fun h41 => ?_)
      · refine zr_iconst (q := 84) dX12_digits_83 rfl (z_in_of rfl) ?_
        refine zr_ireturn dX12_digits_84 rfl (z_fit_z (by decide)) ?_
        exact hQ
      · exact absurd rfl h41
theorem s_X12_digits_k {pl d k v : Int} (H : zXh M L) {p : Int} (hp : M 517 21 = p) (h0 : 0 ≤ p) (h1 : p ≤ 61) (l0 : 0 ≤ pl) (l1 : pl < 155) (hk : k < d) (kd : 0 ≤ k ∧ d ≤ 2) (hc : 48 ≤ zCh9 L p ∧ zCh9 L p ≤ 57) (hv : M 528 pl = v) (v0 : 0 ≤ v ∧ v < 10) {bc bs : Nat} {Q : zV → zS → zM → Prop}
    (kk : z_Ex mX12_digits zF 25 [(1, 517), (0, pl), (0, d), (0, k + 1)] [] (z_up (z_up M 528 pl (10 * v + zCh9 L p - 48)) 517 21 (p + 1)) bc bs Q) : z_Ex mX12_digits zF 25 [(1, 517), (0, pl), (0, d), (0, k)] [] M bc bs Q := by
  have Hm := H.1
  refine zp_il3 (q := 26) dX12_digits_25 rfl ?_
  refine zp_il2 (q := 27) dX12_digits_26 rfl ?_
  refine zr_icmp_ge (q := 83) (q2 := 30) dX12_digits_27 (by decide) rfl (fun h27 => ?_) (fun h27 => ?_)
  · exact absurd h27 (by omega)
  · refine zp_al0 (q := 31) dX12_digits_30 rfl ?_
    refine zf_callV0 (k517) (s_X12_here H hp h0) mtX12_here wiX12_here weX12_here wlX12_173 (q := 34) dX12_digits_31 rfl rfl rfl rfl rfl rfl rfl (fun r S9 M9 h8 hP => ?_) (fun k S9 M9 hP => (z_no hP.1 rfl).elim)
    obtain ⟨rfl, rfl, h9⟩ := hP
    subst M9
    refine zr_bipush (q := 36) dX12_digits_34 rfl (z_in_of rfl) (by decide +kernel) ?_
    refine zr_bipush (q := 38) dX12_digits_36 rfl (z_in_of rfl) (by decide +kernel) ?_
    refine zp_callS3 (s_X12_in) mtX12_in wtX12_in wlX12_66 (q := 41) dX12_digits_38 rfl rfl rfl rfl rfl (fun r S9 M9 h8 hP => ?_) (fun k S9 M9 hP => (z_no hP.1 rfl).elim)
    obtain ⟨rfl, rfl, h9⟩ := hP
    subst M9
    rw [if_pos hc]
    refine zr_if_eq (q := 83) (q2 := 44) dX12_digits_41 (by decide) rfl (fun h41 => ?_) (fun h41 => ?_)
    · exact absurd h41 (by decide)
    · refine zp_al0 (q := 45) dX12_digits_44 rfl ?_
      refine zf_getG (v := 528) 22 (k517) (Hm.2.2.2.2.2.2.2.2.2.2) rfl fdX12_49 (q := 48) dX12_digits_45 rfl rfl ?_
      refine zp_il1 (q := 49) dX12_digits_48 rfl ?_
      refine zr_bipush (q := 51) dX12_digits_49 rfl (z_in_of rfl) (by decide +kernel) ?_
      refine zp_al0 (q := 52) dX12_digits_51 rfl ?_
      refine zf_getG (v := 528) 22 (k517) (Hm.2.2.2.2.2.2.2.2.2.2) rfl fdX12_49 (q := 55) dX12_digits_52 rfl rfl ?_
      refine zp_il1 (q := 56) dX12_digits_55 rfl ?_
      refine zf_iald (v := v) (by first | assumption | exact k518 | exact k519 | exact k520 | exact k521 | exact k522 | exact k523 | exact k524 | exact k525 | exact k526 | exact k527 | exact k528 | exact k510 | exact k512 | exact k515 | exact k516 | exact k507 | exact k509 | exact k135 | exact k489 | exact k529 | exact k530) (hv) (q := 57) dX12_digits_56 rfl (by omega) (by omega) ?_
      refine zr_imul (q := 58) dX12_digits_57 rfl (fun hA hB => by unfold z_in at hA hB ⊢; omega) ?_
      refine zp_al0 (q := 59) dX12_digits_58 rfl ?_
      refine zf_callV0 (k517) (s_X12_here H hp h0) mtX12_here wiX12_here weX12_here wlX12_173 (q := 62) dX12_digits_59 rfl rfl rfl rfl rfl rfl rfl (fun r S9 M9 h8 hP => ?_) (fun k S9 M9 hP => (z_no hP.1 rfl).elim)
      obtain ⟨rfl, rfl, h9⟩ := hP
      subst M9
      refine zr_iadd (q := 63) dX12_digits_62 rfl (fun hA hB => by unfold z_in at hA hB ⊢; omega) ?_
      refine zr_bipush (q := 65) dX12_digits_63 rfl (z_in_of rfl) (by decide +kernel) ?_
      refine zr_isub (q := 66) dX12_digits_65 rfl (fun hA hB => by unfold z_in at hA hB ⊢; omega) ?_
      refine zf_iast (by first | assumption | exact k518 | exact k519 | exact k520 | exact k521 | exact k522 | exact k523 | exact k524 | exact k525 | exact k526 | exact k527 | exact k528 | exact k510 | exact k512 | exact k515 | exact k516 | exact k507 | exact k509 | exact k135 | exact k489 | exact k529 | exact k530) (q := 67) dX12_digits_66 rfl (by omega) (by omega) ?_
      refine zp_al0 (q := 68) dX12_digits_67 rfl ?_
      refine zr_dup (q := 69) dX12_digits_68 rfl (Or.inr rfl) ?_
      refine zf_getG (v := p) 21 (k517) (by rw [z_up_ne (by decide)]; exact hp) rfl fdX12_170 (q := 72) dX12_digits_69 rfl rfl ?_
      refine zr_iconst (q := 73) dX12_digits_72 rfl (z_in_of rfl) ?_
      refine zr_iadd (q := 74) dX12_digits_73 rfl (fun hA hB => by unfold z_in at hA hB ⊢; omega) ?_
      refine zf_putG 21 (k517) rfl fpX12_170 (q := 77) dX12_digits_74 rfl rfl (by decide) (z_fit_i _) ?_
      refine zp_inc3 (q := 80) dX12_digits_77 rfl rfl rfl (fun hA => by unfold z_in at hA ⊢; omega) ?_
      refine zr_goto (q := 25) dX12_digits_80 (by decide) ?_
      exact kk
theorem s_X12_digits (H : zXh M L) {p pl d : Int} (hp : M 517 21 = p) (h0 : 0 ≤ p) (h1 : p ≤ 60) (l0 : 0 ≤ pl) (l1 : pl < 155) (hd : d = 1 ∨ d = 2) (hc : 48 ≤ zCh9 L p ∧ zCh9 L p ≤ 57) : z_Call mX12_digits zF [(1, 517), (0, pl), (0, d)] M (fun r S' M' => r = (0, 1) ∧ S' = zF ∧ zTo M M' pl (pl + 1) (p + zNl (zCh9 L) p d) ∧ M' 528 pl = zNv (zCh9 L) p d) := by
  have Hm := H.1
  have T1 : zTo M (z_up M 528 pl 0) pl (pl + 1) p := ⟨fun z a b => z_up_ne b, fun j a => by rw [z_up_ne (by decide)], by rw [z_up_ne (by decide)]; exact hp, fun j hj => z_up_sl (by omega)⟩
  have T2 : zTo M (z_up (z_up (z_up M 528 pl 0) 528 pl (10 * 0 + zCh9 L p - 48)) 517 21 (p + 1)) pl (pl + 1) (p + 1) := ⟨fun z a b => by rw [z_up_ne a, z_up_ne b, z_up_ne b], fun j a => by rw [z_up_sl a, z_up_ne (by decide), z_up_ne (by decide)], z_up_eq, fun j hj => by rw [z_up_ne (by decide), z_up_sl (by omega), z_up_sl (by omega)]⟩
  have v2 : z_up (z_up (z_up M 528 pl 0) 528 pl (10 * 0 + zCh9 L p - 48)) 517 21 (p + 1) 528 pl = zCh9 L p - 48 := by
    rw [z_up_ne (by decide), z_up_eq]
    omega
  have kk : z_Ex mX12_digits zF 25 [(1, 517), (0, pl), (0, d), (0, 0)] [] (z_up M 528 pl 0) mX12_digits.2.2.2.2.2.1 mX12_digits.2.2.2.2.2.2.1 (fun r S' M' => r = (0, 1) ∧ S' = zF ∧ zTo M M' pl (pl + 1) (p + zNl (zCh9 L) p d) ∧ M' 528 pl = zNv (zCh9 L) p d) := by
    refine s_X12_digits_k (v := 0) (T1.h H) T1.2.2.1 h0 (by omega) l0 l1 (by omega) (by omega) hc z_up_eq (by decide) ?_
    by_cases e : d = 2 ∧ 48 ≤ zCh9 L (p + 1) ∧ zCh9 L (p + 1) ≤ 57
    · refine s_X12_digits_k (v := zCh9 L p - 48) (T2.h H) T2.2.2.1 (by omega) (by omega) l0 l1 (by omega) (by omega) e.2 v2 (by omega) ?_
      have T3 : zTo M (z_up (z_up (z_up (z_up (z_up M 528 pl 0) 528 pl (10 * 0 + zCh9 L p - 48)) 517 21 (p + 1)) 528 pl (10 * (zCh9 L p - 48) + zCh9 L (p + 1) - 48)) 517 21 (p + 1 + 1)) pl (pl + 1) (p + zNl (zCh9 L) p d) := by
        refine ⟨fun z a b => by rw [z_up_ne a, z_up_ne b]; exact T2.1 z a b, fun j a => by rw [z_up_sl a, z_up_ne (by decide)]; exact T2.2.1 j a, ?_, fun j hj => by rw [z_up_ne (by decide), z_up_sl (by omega)]; exact T2.2.2.2 j hj⟩
        rw [z_up_eq]
        unfold zNl
        rw [if_pos e]
        omega
      refine s_X12_digits_s (p := p + 1 + 1) (T3.h H) z_up_eq (by omega) (Or.inl (by omega)) ⟨rfl, rfl, T3, ?_⟩
      rw [z_up_ne (by decide), z_up_eq]
      unfold zNv
      rw [if_pos e]
      omega
    · refine s_X12_digits_s (T2.h H) T2.2.2.1 (by omega) (by omega) ⟨rfl, rfl, ?_, ?_⟩
      · have e9 : zNl (zCh9 L) p d = 1 := if_neg e
        rw [e9]
        exact T2
      · rw [v2]
        unfold zNv
        rw [if_neg e]
  refine z_enter (k := 1) rfl rfl rfl ?_
  refine zp_al0 (q := 1) dX12_digits_0 rfl ?_
  refine zf_callV0 (k517) (s_X12_here H hp h0) mtX12_here wiX12_here weX12_here wlX12_173 (q := 4) dX12_digits_1 rfl rfl rfl rfl rfl rfl rfl (fun r S9 M9 h8 hP => ?_) (fun k S9 M9 hP => (z_no hP.1 rfl).elim)
  obtain ⟨rfl, rfl, h9⟩ := hP
  subst M9
  refine zr_bipush (q := 6) dX12_digits_4 rfl (z_in_of rfl) (by decide +kernel) ?_
  refine zr_bipush (q := 8) dX12_digits_6 rfl (z_in_of rfl) (by decide +kernel) ?_
  refine zp_callS3 (s_X12_in) mtX12_in wtX12_in wlX12_66 (q := 11) dX12_digits_8 rfl rfl rfl rfl rfl (fun r S9 M9 h8 hP => ?_) (fun k S9 M9 hP => (z_no hP.1 rfl).elim)
  obtain ⟨rfl, rfl, h9⟩ := hP
  subst M9
  rw [if_pos hc]
  refine zr_if_ne (q := 16) (q2 := 14) dX12_digits_11 (by decide) rfl (fun h11 => ?_) (fun h11 => ?_)
  · refine zp_al0 (q := 17) dX12_digits_16 rfl ?_
    refine zf_getG (v := 528) 22 (k517) (Hm.2.2.2.2.2.2.2.2.2.2) rfl fdX12_49 (q := 20) dX12_digits_17 rfl rfl ?_
    refine zp_il1 (q := 21) dX12_digits_20 rfl ?_
    refine zr_iconst (q := 22) dX12_digits_21 rfl (z_in_of rfl) ?_
    refine zf_iast (by first | assumption | exact k518 | exact k519 | exact k520 | exact k521 | exact k522 | exact k523 | exact k524 | exact k525 | exact k526 | exact k527 | exact k528 | exact k510 | exact k512 | exact k515 | exact k516 | exact k507 | exact k509 | exact k135 | exact k489 | exact k529 | exact k530) (q := 23) dX12_digits_22 rfl (by omega) (by omega) ?_
    refine zr_iconst (q := 24) dX12_digits_23 rfl (z_in_of rfl) ?_
    refine zp_is3 (q := 25) dX12_digits_24 rfl rfl rfl ?_
    exact kk
  · exact absurd (by decide) h11
theorem s_X12_digits_x (H : zXh M L) {p pl d : Int} (hp : M 517 21 = p) (h0 : 0 ≤ p) (hc : ¬ (48 ≤ zCh9 L p ∧ zCh9 L p ≤ 57)) : z_Call mX12_digits zF [(1, 517), (0, pl), (0, d)] M (zpF 0 0 M) := by
  refine z_enter (k := 1) rfl rfl rfl ?_
  refine zp_al0 (q := 1) dX12_digits_0 rfl ?_
  refine zf_callV0 (k517) (s_X12_here H hp h0) mtX12_here wiX12_here weX12_here wlX12_173 (q := 4) dX12_digits_1 rfl rfl rfl rfl rfl rfl rfl (fun r S9 M9 h8 hP => ?_) (fun k S9 M9 hP => (z_no hP.1 rfl).elim)
  obtain ⟨rfl, rfl, h9⟩ := hP
  subst M9
  refine zr_bipush (q := 6) dX12_digits_4 rfl (z_in_of rfl) (by decide +kernel) ?_
  refine zr_bipush (q := 8) dX12_digits_6 rfl (z_in_of rfl) (by decide +kernel) ?_
  refine zp_callS3 (s_X12_in) mtX12_in wtX12_in wlX12_66 (q := 11) dX12_digits_8 rfl rfl rfl rfl rfl (fun r S9 M9 h8 hP => ?_) (fun k S9 M9 hP => (z_no hP.1 rfl).elim)
  obtain ⟨rfl, rfl, h9⟩ := hP
  subst M9
  rw [if_neg hc]
  refine zr_if_ne (q := 16) (q2 := 14) dX12_digits_11 (by decide) rfl (fun h11 => ?_) (fun h11 => ?_)
  · exact absurd rfl h11
  · refine zr_iconst (q := 15) dX12_digits_14 rfl (z_in_of rfl) ?_
    refine zr_ireturn dX12_digits_15 rfl (z_fit_z (by decide)) ?_
    exact ⟨rfl, rfl, rfl⟩
theorem s_X12_figures (H : zXh M L) {p pl d : Int} (hp : M 517 21 = p) (h0 : 0 ≤ p) (h1 : p ≤ 60) (l0 : 0 ≤ pl) (l1 : pl < 155) (hd : d = 1 ∨ d = 2) (hc : zPo (zCh9 L) p d) : z_Call mX12_figures zF [(1, 517), (0, pl), (0, d)] M (fun r S' M' => r = (0, 1) ∧ S' = zF ∧ zTo M M' pl (pl + 1) (zPe (zCh9 L) p d) ∧ M' 528 pl = zNv (zCh9 L) (p + 1) d) := by
  unfold zPo at hc
  have hd0 : d ≠ 0 := by omega
  have hd2 : zCh9 L p = 32 ∧ 48 ≤ zCh9 L (p + 1) ∧ zCh9 L (p + 1) ≤ 57 := by omega
  have hlt := zCh9_lt (by rw [hd2.1]; decide) H.2.2
  refine z_enter (k := 0) rfl rfl rfl ?_
  refine zp_al0 (q := 1) dX12_figures_0 rfl ?_
  refine zr_bipush (q := 3) dX12_figures_1 rfl (z_in_of rfl) (by decide +kernel) ?_
  refine zf_callV1 (k517) (s_X12_skips H hp h0 (by omega) (by decide) hd2.1) mtX12_skips wiX12_skips weX12_skips wlX12_187 (q := 6) dX12_figures_3 rfl rfl rfl rfl rfl rfl rfl (fun r S9 M9 h8 hP => ?_) (fun k S9 M9 hP => (z_no hP.1 rfl).elim)
  obtain ⟨rfl, rfl, t1⟩ := hP
  refine zr_if_eq (q := 22) (q2 := 9) dX12_figures_6 (by decide) rfl (fun h6 => ?_) (fun h6 => ?_)
  · exact absurd h6 (by decide)
  · refine zp_al0 (q := 10) dX12_figures_9 rfl ?_
    refine zp_il1 (q := 11) dX12_figures_10 rfl ?_
    refine zp_il2 (q := 12) dX12_figures_11 rfl ?_
    refine zf_callV2 (k517) (s_X12_digits (t1.h H) t1.2.2.1 (by omega) (by omega) l0 l1 hd hd2.2) mtX12_digits wiX12_digits weX12_digits wlX12_190 (q := 15) dX12_figures_12 rfl rfl rfl rfl rfl rfl rfl (fun r S9 M9 h8 hP => ?_) (fun k S9 M9 hP => (z_no hP.1 rfl).elim)
    obtain ⟨rfl, rfl, t2, v2⟩ := hP
    refine zr_if_eq (q := 22) (q2 := 18) dX12_figures_15 (by decide) rfl (fun h15 => ?_) (fun h15 => ?_)
    · exact absurd h15 (by decide)
    · refine zr_iconst (q := 19) dX12_figures_18 rfl (z_in_of rfl) ?_
      refine zr_goto (q := 23) dX12_figures_19 (by decide) ?_
      refine zr_ireturn dX12_figures_23 rfl (z_fit_z (by decide)) ?_
      have e9 : zPe (zCh9 L) p d = p + 1 + zNl (zCh9 L) (p + 1) d := by
        unfold zPe
        rw [if_neg hd0, if_pos hd2.1, if_pos hd2.2]
      have t3 := t1.t t2 (c := pl) (d := pl + 1) (fun j hj => by omega)
      rw [t2.2.2.1, ← e9] at t3
      exact ⟨rfl, rfl, t3, v2⟩
theorem s_X12_figures_x (H : zXh M L) {p pl d : Int} (hp : M 517 21 = p) (h0 : 0 ≤ p) (h1 : p ≤ 60) (l0 : 0 ≤ pl) (l1 : pl < 155) (hd : d = 1 ∨ d = 2) (hc : ¬ zPo (zCh9 L) p d) : z_Call mX12_figures zF [(1, 517), (0, pl), (0, d)] M (fun r S' M' => r = (0, 0) ∧ S' = zF ∧ zTo M M' pl (pl + 1) (zPe (zCh9 L) p d)) := by
  unfold zPo at hc
  have hd0 : d ≠ 0 := by omega
  by_cases e : zCh9 L p = 32
  · have hlt := zCh9_lt (by rw [e]; decide) H.2.2
    have e9 : zPe (zCh9 L) p d = p + 1 := by
      unfold zPe
      rw [if_neg hd0, if_pos e, if_neg (by omega)]
    refine z_enter (k := 0) rfl rfl rfl ?_
    refine zp_al0 (q := 1) dX12_figures_0 rfl ?_
    refine zr_bipush (q := 3) dX12_figures_1 rfl (z_in_of rfl) (by decide +kernel) ?_
    refine zf_callV1 (k517) (s_X12_skips H hp h0 (by omega) (by decide) e) mtX12_skips wiX12_skips weX12_skips wlX12_187 (q := 6) dX12_figures_3 rfl rfl rfl rfl rfl rfl rfl (fun r S9 M9 h8 hP => ?_) (fun k S9 M9 hP => (z_no hP.1 rfl).elim)
    obtain ⟨rfl, rfl, t1⟩ := hP
    refine zr_if_eq (q := 22) (q2 := 9) dX12_figures_6 (by decide) rfl (fun h6 => ?_) (fun h6 => ?_)
    · exact absurd h6 (by decide)
    · refine zp_al0 (q := 10) dX12_figures_9 rfl ?_
      refine zp_il1 (q := 11) dX12_figures_10 rfl ?_
      refine zp_il2 (q := 12) dX12_figures_11 rfl ?_
      refine zf_callV2 (k517) (s_X12_digits_x (t1.h H) t1.2.2.1 (by omega) (by omega)) mtX12_digits wiX12_digits weX12_digits wlX12_190 (q := 15) dX12_figures_12 rfl rfl rfl rfl rfl rfl rfl (fun r S9 M9 h8 hP => ?_) (fun k S9 M9 hP => (z_no hP.1 rfl).elim)
      obtain ⟨rfl, rfl, h9⟩ := hP
      subst M9
      refine zr_if_eq (q := 22) (q2 := 18) dX12_figures_15 (by decide) rfl (fun h15 => ?_) (fun h15 => ?_)
      · refine zr_iconst (q := 23) dX12_figures_22 rfl (z_in_of rfl) ?_
        refine zr_ireturn dX12_figures_23 rfl (z_fit_z (by decide)) ?_
        rw [e9]
        exact ⟨rfl, rfl, t1.1, t1.2.1, t1.2.2.1, fun j _ => t1.2.2.2 j (by omega)⟩
      · exact absurd rfl h15
  · have e9 : zPe (zCh9 L) p d = p := by
      unfold zPe
      rw [if_neg hd0, if_neg e]
    refine z_enter (k := 0) rfl rfl rfl ?_
    refine zp_al0 (q := 1) dX12_figures_0 rfl ?_
    refine zr_bipush (q := 3) dX12_figures_1 rfl (z_in_of rfl) (by decide +kernel) ?_
    refine zf_callV1 (k517) (s_X12_skips_x H hp h0 e) mtX12_skips wiX12_skips weX12_skips wlX12_187 (q := 6) dX12_figures_3 rfl rfl rfl rfl rfl rfl rfl (fun r S9 M9 h8 hP => ?_) (fun k S9 M9 hP => (z_no hP.1 rfl).elim)
    obtain ⟨rfl, rfl, h9⟩ := hP
    subst M9
    refine zr_if_eq (q := 22) (q2 := 9) dX12_figures_6 (by decide) rfl (fun h6 => ?_) (fun h6 => ?_)
    · refine zr_iconst (q := 23) dX12_figures_22 rfl (z_in_of rfl) ?_
      refine zr_ireturn dX12_figures_23 rfl (z_fit_z (by decide)) ?_
      rw [e9]
      exact ⟨rfl, rfl, fun _ _ _ => rfl, fun _ _ => rfl, hp, fun _ _ => rfl⟩
    · exact absurd rfl h6
theorem s_X12_windsHere_l (H : zXh M L) {p P f : Int} (hf : f = zFw9 (zCh9 L) p) (f1 : 0 ≤ f ∧ f < 60) (h0 : 0 ≤ p) (h1 : p + 2 * f ≤ 60) (P0 : 0 ≤ P) (P1 : P < 152) {bc bs : Nat} {Q : zV → zS → zM → Prop}
    (hy : zCh9 L (p + 2 * f) ≠ 62 → ∀ M', zTo M M' (P + 3) (P + 4) (p + 2 * f) → M' 528 (P + 3) = f → Q (0, 1) zF M') (hn : zCh9 L (p + 2 * f) = 62 → ∀ M', zTo M M' (P + 3) (P + 4) (p + 2 * f + 1) → Q (0, 0) zF M') : ∀ (m : Nat) (j : Int) (M' : zM), 0 ≤ j → j ≤ f → f - j < m → zTo M M' (P + 3) (P + 4) (p + 2 * j) → M' 528 (P + 3) = j →
    z_Ex mX12_windsHere zF 21 [(1, 517), (0, P)] [] M' bc bs Q := by
  intro m
  induction m with
  | zero => intro j M' a1 a2 a3; omega
  | succ m ih =>
    intro j M' a1 a2 a3 hI hv
    have H' := hI.h H
    by_cases ej : j < f
    · have e1 := zFm_in (zCh9 L) 60 p j a1 (by rw [hf] at ej; exact ej)
      refine zp_al0 (q := 22) dX12_windsHere_21 rfl ?_
      refine zr_bipush (q := 24) dX12_windsHere_22 rfl (z_in_of rfl) (by decide +kernel) ?_
      refine zf_callV1 (k517) (s_X12_skips H' hI.2.2.1 (by omega) (by omega) (by decide) e1.1) mtX12_skips wiX12_skips weX12_skips wlX12_187 (q := 27) dX12_windsHere_24 rfl rfl rfl rfl rfl rfl rfl (fun r S9 M9 h8 hP => ?_) (fun k S9 M9 hP => (z_no hP.1 rfl).elim)
      obtain ⟨rfl, rfl, x1⟩ := hP
      have H1 := x1.h H'
      have Hm1 := H1.1
      refine zr_if_eq (q := 71) (q2 := 30) dX12_windsHere_27 (by decide) rfl (fun h27 => ?_) (fun h27 => ?_)
      · exact absurd h27 (by decide)
      · refine zp_al0 (q := 31) dX12_windsHere_30 rfl ?_
        refine zf_callV0 (k517) (s_X12_here H1 x1.2.2.1 (by omega)) mtX12_here wiX12_here weX12_here wlX12_173 (q := 34) dX12_windsHere_31 rfl rfl rfl rfl rfl rfl rfl (fun r S9 M9 h8 hP => ?_) (fun k S9 M9 hP => (z_no hP.1 rfl).elim)
        obtain ⟨rfl, rfl, h9⟩ := hP
        subst M9
        refine zr_bipush (q := 36) dX12_windsHere_34 rfl (z_in_of rfl) (by decide +kernel) ?_
        refine zr_bipush (q := 38) dX12_windsHere_36 rfl (z_in_of rfl) (by decide +kernel) ?_
        refine zp_callS3 (s_X12_in) mtX12_in wtX12_in wlX12_66 (q := 41) dX12_windsHere_38 rfl rfl rfl rfl rfl (fun r S9 M9 h8 hP => ?_) (fun k S9 M9 hP => (z_no hP.1 rfl).elim)
        obtain ⟨rfl, rfl, h9⟩ := hP
        subst M9
        rw [if_pos e1.2]
        refine zr_if_ne (q := 46) (q2 := 44) dX12_windsHere_41 (by decide) rfl (fun h41 => ?_) (fun h41 => ?_)
        · refine zp_al0 (q := 47) dX12_windsHere_46 rfl ?_
          refine zr_dup (q := 48) dX12_windsHere_47 rfl (Or.inr rfl) ?_
          refine zf_getG (v := p + 2 * j + 1) 21 (k517) (x1.2.2.1) rfl fdX12_170 (q := 51) dX12_windsHere_48 rfl rfl ?_
          refine zr_iconst (q := 52) dX12_windsHere_51 rfl (z_in_of rfl) ?_
          refine zr_iadd (q := 53) dX12_windsHere_52 rfl (fun hA hB => by unfold z_in at hA hB ⊢; omega) ?_
          refine zf_putG 21 (k517) rfl fpX12_170 (q := 56) dX12_windsHere_53 rfl rfl (by decide) (z_fit_i _) ?_
          refine zp_al0 (q := 57) dX12_windsHere_56 rfl ?_
          refine zf_getG (v := 528) 22 (k517) (by rw [z_up_sl (by decide)]; exact Hm1.2.2.2.2.2.2.2.2.2.2) rfl fdX12_49 (q := 60) dX12_windsHere_57 rfl rfl ?_
          refine zp_il1 (q := 61) dX12_windsHere_60 rfl ?_
          refine zr_iconst (q := 62) dX12_windsHere_61 rfl (z_in_of rfl) ?_
          refine zr_iadd (q := 63) dX12_windsHere_62 rfl (fun hA hB => by unfold z_in at hA hB ⊢; omega) ?_
          refine zr_dup2 (q := 64) dX12_windsHere_63 rfl (Or.inl rfl) (Or.inr rfl) ?_
          refine zf_iald (v := j) (by first | assumption | exact k518 | exact k519 | exact k520 | exact k521 | exact k522 | exact k523 | exact k524 | exact k525 | exact k526 | exact k527 | exact k528 | exact k510 | exact k512 | exact k515 | exact k516 | exact k507 | exact k509 | exact k135 | exact k489 | exact k529 | exact k530) (by rw [z_up_ne (by decide), x1.2.2.2 _ (by omega)]; exact hv) (q := 65) dX12_windsHere_64 rfl (by omega) (by omega) ?_
          refine zr_iconst (q := 66) dX12_windsHere_65 rfl (z_in_of rfl) ?_
          refine zr_iadd (q := 67) dX12_windsHere_66 rfl (fun hA hB => by unfold z_in at hA hB ⊢; omega) ?_
          refine zf_iast (by first | assumption | exact k518 | exact k519 | exact k520 | exact k521 | exact k522 | exact k523 | exact k524 | exact k525 | exact k526 | exact k527 | exact k528 | exact k510 | exact k512 | exact k515 | exact k516 | exact k507 | exact k509 | exact k135 | exact k489 | exact k529 | exact k530) (q := 68) dX12_windsHere_67 rfl (by omega) (by omega) ?_
          refine zr_goto (q := 21) dX12_windsHere_68 (by decide) ?_
          refine ih (j + 1) _ (by omega) (by omega) (by omega) ⟨fun z a b => by rw [z_up_ne b, z_up_ne a]; exact (x1.1 z a b).trans (hI.1 z a b), fun i a => by rw [z_up_ne (by decide), z_up_sl a]; exact (x1.2.1 i a).trans (hI.2.1 i a), by rw [z_up_ne (by decide), z_up_eq]; omega, fun i a => by rw [z_up_sl (by omega), z_up_ne (by decide)]; exact (x1.2.2.2 i (by omega)).trans (hI.2.2.2 i a)⟩ z_up_eq
        · exact absurd (by decide) h41
    · have ej2 : j = f := by omega
      subst ej2
      have e1 := zFm_step (zCh9 L) 60 p (by have : zFm (zCh9 L) 60 p = j := hf.symm; omega)
      rw [show zFm (zCh9 L) 60 p = j from hf.symm] at e1
      by_cases e2 : zCh9 L (p + 2 * j) = 62
      · skip
        refine zp_al0 (q := 22) dX12_windsHere_21 rfl ?_
        refine zr_bipush (q := 24) dX12_windsHere_22 rfl (z_in_of rfl) (by decide +kernel) ?_
        refine zf_callV1 (k517) (s_X12_skips H' hI.2.2.1 (by omega) (by omega) (by decide) e2) mtX12_skips wiX12_skips weX12_skips wlX12_187 (q := 27) dX12_windsHere_24 rfl rfl rfl rfl rfl rfl rfl (fun r S9 M9 h8 hP => ?_) (fun k S9 M9 hP => (z_no hP.1 rfl).elim)
        obtain ⟨rfl, rfl, x1⟩ := hP
        refine zr_if_eq (q := 71) (q2 := 30) dX12_windsHere_27 (by decide) rfl (fun h27 => ?_) (fun h27 => ?_)
        · exact absurd h27 (by decide)
        · refine zp_al0 (q := 31) dX12_windsHere_30 rfl ?_
          refine zf_callV0 (k517) (s_X12_here (x1.h H') x1.2.2.1 (by omega)) mtX12_here wiX12_here weX12_here wlX12_173 (q := 34) dX12_windsHere_31 rfl rfl rfl rfl rfl rfl rfl (fun r S9 M9 h8 hP => ?_) (fun k S9 M9 hP => (z_no hP.1 rfl).elim)
          obtain ⟨rfl, rfl, h9⟩ := hP
          subst M9
          refine zr_bipush (q := 36) dX12_windsHere_34 rfl (z_in_of rfl) (by decide +kernel) ?_
          refine zr_bipush (q := 38) dX12_windsHere_36 rfl (z_in_of rfl) (by decide +kernel) ?_
          refine zp_callS3 (s_X12_in) mtX12_in wtX12_in wlX12_66 (q := 41) dX12_windsHere_38 rfl rfl rfl rfl rfl (fun r S9 M9 h8 hP => ?_) (fun k S9 M9 hP => (z_no hP.1 rfl).elim)
          obtain ⟨rfl, rfl, h9⟩ := hP
          subst M9
          rw [if_neg (fun h => e1 ⟨e2, h⟩)]
          refine zr_if_ne (q := 46) (q2 := 44) dX12_windsHere_41 (by decide) rfl (fun h41 => ?_) (fun h41 => ?_)
          · exact absurd rfl h41
          · refine zr_iconst (q := 45) dX12_windsHere_44 rfl (z_in_of rfl) ?_
            refine zr_ireturn dX12_windsHere_45 rfl (z_fit_z (by decide)) ?_
            have t := hI.t x1 (c := P + 3) (d := P + 4) (fun j hj => by omega)
            rw [x1.2.2.1] at t
            exact hn e2 _ t
      · skip
        refine zp_al0 (q := 22) dX12_windsHere_21 rfl ?_
        refine zr_bipush (q := 24) dX12_windsHere_22 rfl (z_in_of rfl) (by decide +kernel) ?_
        refine zf_callV1 (k517) (s_X12_skips_x H' hI.2.2.1 (by omega) e2) mtX12_skips wiX12_skips weX12_skips wlX12_187 (q := 27) dX12_windsHere_24 rfl rfl rfl rfl rfl rfl rfl (fun r S9 M9 h8 hP => ?_) (fun k S9 M9 hP => (z_no hP.1 rfl).elim)
        obtain ⟨rfl, rfl, h9⟩ := hP
        subst M9
        refine zr_if_eq (q := 71) (q2 := 30) dX12_windsHere_27 (by decide) rfl (fun h27 => ?_) (fun h27 => ?_)
        · refine zr_iconst (q := 72) dX12_windsHere_71 rfl (z_in_of rfl) ?_
          refine zr_ireturn dX12_windsHere_72 rfl (z_fit_z (by decide)) ?_
          exact hy e2 _ hI hv
        · exact absurd rfl h27
theorem s_X12_windsHere_q (H : zXh M L) {p P : Int} (hp : M 517 21 = p) (f1 : 0 ≤ zFw9 (zCh9 L) p ∧ zFw9 (zCh9 L) p < 60) (h0 : 0 ≤ p) (h1 : p + 2 * zFw9 (zCh9 L) p ≤ 60) (P0 : 0 ≤ P) (P1 : P < 152) {Q : zV → zS → zM → Prop}
    (hy : zCh9 L (p + 2 * zFw9 (zCh9 L) p) ≠ 62 → ∀ M', zTo M M' (P + 2) (P + 4) (p + 2 * zFw9 (zCh9 L) p) → M' 528 (P + 2) = p → M' 528 (P + 3) = zFw9 (zCh9 L) p → Q (0, 1) zF M') (hn : zCh9 L (p + 2 * zFw9 (zCh9 L) p) = 62 → ∀ M', zTo M M' (P + 2) (P + 4) (p + 2 * zFw9 (zCh9 L) p + 1) → Q (0, 0) zF M') :
    z_Call mX12_windsHere zF [(1, 517), (0, P)] M Q := by
  have Hm := H.1
  have T1 : zTo M (z_up (z_up M 528 (P + 2) p) 528 (P + 3) 0) (P + 2) (P + 4) p := ⟨fun z a b => by rw [z_up_ne b, z_up_ne b], fun j a => by rw [z_up_ne (by decide), z_up_ne (by decide)], by rw [z_up_ne (by decide), z_up_ne (by decide)]; exact hp, fun j hj => by rw [z_up_sl (by omega), z_up_sl (by omega)]⟩
  refine z_enter (k := 0) rfl rfl rfl ?_
  refine zp_al0 (q := 1) dX12_windsHere_0 rfl ?_
  refine zf_getG (v := 528) 22 (k517) (Hm.2.2.2.2.2.2.2.2.2.2) rfl fdX12_49 (q := 4) dX12_windsHere_1 rfl rfl ?_
  refine zp_il1 (q := 5) dX12_windsHere_4 rfl ?_
  refine zr_iconst (q := 6) dX12_windsHere_5 rfl (z_in_of rfl) ?_
  refine zr_iadd (q := 7) dX12_windsHere_6 rfl (fun hA hB => by unfold z_in at hA hB ⊢; omega) ?_
  refine zp_al0 (q := 8) dX12_windsHere_7 rfl ?_
  refine zf_getG (v := p) 21 (k517) (hp) rfl fdX12_170 (q := 11) dX12_windsHere_8 rfl rfl ?_
  refine zf_iast (by first | assumption | exact k518 | exact k519 | exact k520 | exact k521 | exact k522 | exact k523 | exact k524 | exact k525 | exact k526 | exact k527 | exact k528 | exact k510 | exact k512 | exact k515 | exact k516 | exact k507 | exact k509 | exact k135 | exact k489 | exact k529 | exact k530) (q := 12) dX12_windsHere_11 rfl (by omega) (by omega) ?_
  refine zp_al0 (q := 13) dX12_windsHere_12 rfl ?_
  refine zf_getG (v := 528) 22 (k517) (by rw [z_up_ne (by decide)]; exact Hm.2.2.2.2.2.2.2.2.2.2) rfl fdX12_49 (q := 16) dX12_windsHere_13 rfl rfl ?_
  refine zp_il1 (q := 17) dX12_windsHere_16 rfl ?_
  refine zr_iconst (q := 18) dX12_windsHere_17 rfl (z_in_of rfl) ?_
  refine zr_iadd (q := 19) dX12_windsHere_18 rfl (fun hA hB => by unfold z_in at hA hB ⊢; omega) ?_
  refine zr_iconst (q := 20) dX12_windsHere_19 rfl (z_in_of rfl) ?_
  refine zf_iast (by first | assumption | exact k518 | exact k519 | exact k520 | exact k521 | exact k522 | exact k523 | exact k524 | exact k525 | exact k526 | exact k527 | exact k528 | exact k510 | exact k512 | exact k515 | exact k516 | exact k507 | exact k509 | exact k135 | exact k489 | exact k529 | exact k530) (q := 21) dX12_windsHere_20 rfl (by omega) (by omega) ?_
  refine s_X12_windsHere_l (T1.h H) rfl f1 h0 h1 P0 P1 (fun a M' b d => ?_) (fun a M' b => ?_) 61 0 _ (by omega) (by omega) (by omega) ⟨fun _ _ _ => rfl, fun _ _ => rfl, by rw [T1.2.2.1]; omega, fun _ _ => rfl⟩ z_up_eq
  · have t := T1.t b (c := P + 2) (d := P + 4) (fun j hj => by omega)
    rw [b.2.2.1] at t
    exact hy a M' t (by rw [b.2.2.2 (P + 2) (by omega), z_up_sl (by omega), z_up_eq]) d
  · have t := T1.t b (c := P + 2) (d := P + 4) (fun j hj => by omega)
    rw [b.2.2.1] at t
    exact hn a M' t
theorem s_X12_windsHere (H : zXh M L) {p P : Int} (hp : M 517 21 = p) (f1 : 0 ≤ zFw9 (zCh9 L) p ∧ zFw9 (zCh9 L) p < 60) (h0 : 0 ≤ p) (h1 : p + 2 * zFw9 (zCh9 L) p ≤ 60) (P0 : 0 ≤ P) (P1 : P < 152) (hc : zCh9 L (p + 2 * zFw9 (zCh9 L) p) ≠ 62) :
    z_Call mX12_windsHere zF [(1, 517), (0, P)] M (fun r S' M' => r = (0, 1) ∧ S' = zF ∧ zTo M M' (P + 2) (P + 4) (p + 2 * zFw9 (zCh9 L) p) ∧ M' 528 (P + 2) = p ∧ M' 528 (P + 3) = zFw9 (zCh9 L) p) :=
  s_X12_windsHere_q H hp f1 h0 h1 P0 P1 (fun _ M' x y z => ⟨rfl, rfl, x, y, z⟩) (fun h => absurd h hc)
theorem s_X12_windsHere_x (H : zXh M L) {p P : Int} (hp : M 517 21 = p) (f1 : 0 ≤ zFw9 (zCh9 L) p ∧ zFw9 (zCh9 L) p < 60) (h0 : 0 ≤ p) (h1 : p + 2 * zFw9 (zCh9 L) p ≤ 60) (P0 : 0 ≤ P) (P1 : P < 152) (hc : zCh9 L (p + 2 * zFw9 (zCh9 L) p) = 62) :
    z_Call mX12_windsHere zF [(1, 517), (0, P)] M (fun r S' M' => r = (0, 0) ∧ S' = zF ∧ zTo M M' (P + 2) (P + 4) (p + 2 * zFw9 (zCh9 L) p + 1)) :=
  s_X12_windsHere_q H hp f1 h0 h1 P0 P1 (fun h => absurd hc h) (fun _ M' x => ⟨rfl, rfl, x⟩)
/-- what the reference has been told of the command at p, its K-th -/
def zTd (M : zM) (c : Int → Int) (p K : Int) : Prop := M 528 (5 * K) = zWw c p ∧ (zD1 (zWw c p) ≠ 0 → M 528 (5 * K + 1) = zNv c (zq1 c p + 1) (zD1 (zWw c p))) ∧ (zD2 (zWw c p) ≠ 0 → M 528 (5 * K + 2) = zNv c (zq2 c p + 1) (zD2 (zWw c p))) ∧
  (zWw c p = 2 → M 528 (5 * K + 3) = zq3 c p ∧ M 528 (5 * K + 4) = zFw9 c (zq3 c p))
theorem s_X12_withR_q (H : zXh M L) (hE : zEd (zCh9 L) n) {p K : Int} (h0 : 0 ≤ p) (h1 : p ≤ n) (K0 : 0 ≤ K) (K1 : K ≤ 30) (hk : M 517 23 = K) (hp : M 517 21 = p + 1) (e0 : zCh9 L p = 114) {Q : zV → zS → zM → Prop}
    (hy : zCo (zCh9 L) p → ∀ M', zTo M M' (5 * K) (5 * K + 5) (M' 517 21) → M' 517 21 = zCe (zCh9 L) p → zTd M' (zCh9 L) p K → Q (0, 1) zF M') (hn : ¬ zCo (zCh9 L) p → ∀ M', zTo M M' (5 * K) (5 * K + 5) (M' 517 21) → M' 517 21 = zCe (zCh9 L) p → Q (0, 0) zF M') : z_Call mX12_withR zF [(1, 517), (0, 5 * K + 1)] M Q := by
  obtain ⟨g1, g2, g3, g4, g5, g6, g7, g8, g9⟩ := zCe_rg hE h0 h1
  have hE1 := hE.2.1
  refine z_enter (k := 0) rfl rfl rfl ?_
  by_cases e1 : zCh9 L (p + 1) = 97
  · have hmt := zMt9_range (zCh9 L) [110, 107] (p + 2)
    rw [show (([110, 107] : List Int).length : Int) = 2 from rfl] at hmt
    by_cases hm : zMt9 (zCh9 L) [110, 107] (p + 2) = 2
    · have hww : zWw (zCh9 L) p = 3 := by
        unfold zWw
        rw [if_neg (show ¬ zCh9 L p = 98 by omega), if_neg (show ¬ zCh9 L p = 115 by omega), if_neg (show ¬ zCh9 L p = 99 by omega), if_pos (show zCh9 L p = 114 by omega), if_pos (show zCh9 L (p + 1) = 97 by omega)]
        rw [if_pos hm]
      have d1 : zD1 (zWw (zCh9 L) p) = 2 := by rw [hww]; rfl
      have d2 : zD2 (zWw (zCh9 L) p) = 1 := by rw [hww]; rfl
      have g10 := g9 (by omega)
      have f1 : zPe (zCh9 L) (zq1 (zCh9 L) p) 2 = zq2 (zCh9 L) p := by unfold zq2; rw [d1]
      have f2 : zPe (zCh9 L) (zq2 (zCh9 L) p) 1 = zq3 (zCh9 L) p := by unfold zq3; rw [d2]
      by_cases c1 : zPo (zCh9 L) (zq1 (zCh9 L) p) 2
      · have c1x : zPo (zCh9 L) (zq1 (zCh9 L) p) (zD1 (zWw (zCh9 L) p)) := by rw [d1]; exact c1
        by_cases c2 : zPo (zCh9 L) (zq2 (zCh9 L) p) 1
        · have c2x : zPo (zCh9 L) (zq2 (zCh9 L) p) (zD2 (zWw (zCh9 L) p)) := by rw [d2]; exact c2
          have hw : zWw (zCh9 L) p = 3 := by
            unfold zWw
            rw [if_neg (show ¬ zCh9 L p = 98 by omega), if_neg (show ¬ zCh9 L p = 115 by omega), if_neg (show ¬ zCh9 L p = 99 by omega), if_pos (show zCh9 L p = 114 by omega), if_pos (show zCh9 L (p + 1) = 97 by omega)]
            rw [if_pos (show zMt9 (zCh9 L) [110, 107] (p + 2) = 2 by omega)]
          have ha : zWa (zCh9 L) p = 2 + zMt9 (zCh9 L) [110, 107] (p + 2) := by
            unfold zWa
            rw [if_neg (show ¬ zCh9 L p = 98 by omega), if_neg (show ¬ zCh9 L p = 115 by omega), if_neg (show ¬ zCh9 L p = 99 by omega), if_pos (show zCh9 L p = 114 by omega), if_pos (show zCh9 L (p + 1) = 97 by omega)]
          have e1 : p + 2 + zMt9 (zCh9 L) [110, 107] (p + 2) = zq1 (zCh9 L) p := by
            unfold zq1
            omega
          have l0 := zCh9_lt (L := L) (p := p) (by omega) H.2.2
          have l1 := zCh9_lt (L := L) (p := p + 1) (by omega) H.2.2
          refine zp_al0 (q := 1) dX12_withR_0 rfl ?_
          refine zr_bipush (q := 3) dX12_withR_1 rfl (z_in_of rfl) (by decide +kernel) ?_
          refine zf_callV1 (k517) (s_X12_skips H hp (by omega) (by omega) (by decide) (show zCh9 L (p + 1) = 97 by omega)) mtX12_skips wiX12_skips weX12_skips wlX12_187 (q := 6) dX12_withR_3 rfl rfl rfl rfl rfl rfl rfl (fun r S9 M9 h8 hP => ?_) (fun k S9 M9 hP => (z_no hP.1 rfl).elim)
          obtain ⟨rfl, rfl, t1⟩ := hP
          have H1 := t1.h H
          have p1 : M9 517 21 = p + 2 := t1.2.2.1.trans (by omega)
          have k1 : M9 517 23 = K := (t1.2.1 23 (by decide)).trans hk
          refine zr_if_eq (q := 45) (q2 := 9) dX12_withR_6 (by decide) rfl (fun h6 => ?_) (fun h6 => ?_)
          · exact absurd h6 (by decide)
          · refine zp_al0 (q := 10) dX12_withR_9 rfl ?_
            refine zr_iconst (q := 11) dX12_withR_10 rfl (z_in_of rfl) ?_
            refine zr_ldcS (k := 25) (ci := _) (q := 13) (by decide) rfl rfl dX12_withR_11 rfl ?_
            refine zf_callV2 (k517) (s_X12_isWord H1 (p := p + 2) p1 (by omega) (by omega) k1 (by omega) (by omega) zst_25 (w := [110, 107]) hm) mtX12_isWord wiX12_isWord weX12_isWord wlX12_195 (q := 16) dX12_withR_13 rfl rfl rfl rfl rfl rfl rfl (fun r S9 M9 h8 hP => ?_) (fun k S9 M9 hP => (z_no hP.1 rfl).elim)
            obtain ⟨rfl, rfl, t2, v2⟩ := hP
            have H2 := t2.h H1
            have p2 : M9 517 21 = zq1 (zCh9 L) p := t2.2.2.1.trans e1
            have k2 : M9 517 23 = K := (t2.2.1 23 (by decide)).trans k1
            refine zr_if_eq (q := 43) (q2 := 19) dX12_withR_16 (by decide) rfl (fun h16 => ?_) (fun h16 => ?_)
            · exact absurd h16 (by decide)
            · refine zp_al0 (q := 20) dX12_withR_19 rfl ?_
              refine zp_il1 (q := 21) dX12_withR_20 rfl ?_
              refine zr_iconst (q := 22) dX12_withR_21 rfl (z_in_of rfl) ?_
              refine zf_callV2 (k517) (s_X12_figures H2 (p := zq1 (zCh9 L) p) p2 (by omega) (by omega) (by omega) (by omega) (by decide) c1) mtX12_figures wiX12_figures weX12_figures wlX12_199 (q := 25) dX12_withR_22 rfl rfl rfl rfl rfl rfl rfl (fun r S9 M9 h8 hP => ?_) (fun k S9 M9 hP => (z_no hP.1 rfl).elim)
              obtain ⟨rfl, rfl, t3, v3⟩ := hP
              have H3 := t3.h H2
              have p3 : M9 517 21 = zq2 (zCh9 L) p := t3.2.2.1.trans f1
              have k3 : M9 517 23 = K := (t3.2.1 23 (by decide)).trans k2
              refine zr_if_eq (q := 43) (q2 := 28) dX12_withR_25 (by decide) rfl (fun h25 => ?_) (fun h25 => ?_)
              · exact absurd h25 (by decide)
              · refine zp_al0 (q := 29) dX12_withR_28 rfl ?_
                refine zp_il1 (q := 30) dX12_withR_29 rfl ?_
                refine zr_iconst (q := 31) dX12_withR_30 rfl (z_in_of rfl) ?_
                refine zr_iadd (q := 32) dX12_withR_31 rfl (fun hA hB => by unfold z_in at hA hB ⊢; omega) ?_
                refine zr_iconst (q := 33) dX12_withR_32 rfl (z_in_of rfl) ?_
                refine zf_callV2 (k517) (s_X12_figures H3 (p := zq2 (zCh9 L) p) p3 (by omega) (by omega) (by omega) (by omega) (by decide) c2) mtX12_figures wiX12_figures weX12_figures wlX12_199 (q := 36) dX12_withR_33 rfl rfl rfl rfl rfl rfl rfl (fun r S9 M9 h8 hP => ?_) (fun k S9 M9 hP => (z_no hP.1 rfl).elim)
                obtain ⟨rfl, rfl, t4, v4⟩ := hP
                have H4 := t4.h H3
                have p4 : M9 517 21 = zq3 (zCh9 L) p := t4.2.2.1.trans f2
                have k4 : M9 517 23 = K := (t4.2.1 23 (by decide)).trans k3
                refine zr_if_eq (q := 43) (q2 := 39) dX12_withR_36 (by decide) rfl (fun h36 => ?_) (fun h36 => ?_)
                · exact absurd h36 (by decide)
                · refine zr_iconst (q := 40) dX12_withR_39 rfl (z_in_of rfl) ?_
                  refine zr_goto (q := 44) dX12_withR_40 (by decide) ?_
                  refine zr_ireturn dX12_withR_44 rfl (z_fit_z (by decide)) ?_
                  refine hy ⟨by omega, c1x, c2x, fun h => absurd (hw.symm.trans h) (by decide)⟩ _ (t1.t (t2.t (t3.t t4 (c := 5 * K) (d := 5 * K + 5) (fun j hj => by omega)) (c := 5 * K) (d := 5 * K + 5) (fun j hj => by omega)) (c := 5 * K) (d := 5 * K + 5) (fun j hj => by omega)) (p4.trans (zCe_3 (by omega) c1x c2x (by omega)).symm) ⟨?_, ?_, ?_, ?_⟩
                  · rw [hw, t4.2.2.2 (5 * K) (by omega), t3.2.2.2 (5 * K) (by omega)]
                    exact v2
                  · intro _
                    rw [t4.2.2.2 (5 * K + 1) (by omega)]
                    rw [d1]
                    exact v3
                  · intro _
                    rw [show 5 * K + 2 = 5 * K + 1 + 1 by omega]
                    rw [d2]
                    exact v4
                  · exact fun h => absurd (hw.symm.trans h) (by decide)
        · have c2x : ¬ zPo (zCh9 L) (zq2 (zCh9 L) p) (zD2 (zWw (zCh9 L) p)) := by rw [d2]; exact c2
          have hw : zWw (zCh9 L) p = 3 := by
            unfold zWw
            rw [if_neg (show ¬ zCh9 L p = 98 by omega), if_neg (show ¬ zCh9 L p = 115 by omega), if_neg (show ¬ zCh9 L p = 99 by omega), if_pos (show zCh9 L p = 114 by omega), if_pos (show zCh9 L (p + 1) = 97 by omega)]
            rw [if_pos (show zMt9 (zCh9 L) [110, 107] (p + 2) = 2 by omega)]
          have ha : zWa (zCh9 L) p = 2 + zMt9 (zCh9 L) [110, 107] (p + 2) := by
            unfold zWa
            rw [if_neg (show ¬ zCh9 L p = 98 by omega), if_neg (show ¬ zCh9 L p = 115 by omega), if_neg (show ¬ zCh9 L p = 99 by omega), if_pos (show zCh9 L p = 114 by omega), if_pos (show zCh9 L (p + 1) = 97 by omega)]
          have e1 : p + 2 + zMt9 (zCh9 L) [110, 107] (p + 2) = zq1 (zCh9 L) p := by
            unfold zq1
            omega
          have l0 := zCh9_lt (L := L) (p := p) (by omega) H.2.2
          have l1 := zCh9_lt (L := L) (p := p + 1) (by omega) H.2.2
          refine zp_al0 (q := 1) dX12_withR_0 rfl ?_
          refine zr_bipush (q := 3) dX12_withR_1 rfl (z_in_of rfl) (by decide +kernel) ?_
          refine zf_callV1 (k517) (s_X12_skips H hp (by omega) (by omega) (by decide) (show zCh9 L (p + 1) = 97 by omega)) mtX12_skips wiX12_skips weX12_skips wlX12_187 (q := 6) dX12_withR_3 rfl rfl rfl rfl rfl rfl rfl (fun r S9 M9 h8 hP => ?_) (fun k S9 M9 hP => (z_no hP.1 rfl).elim)
          obtain ⟨rfl, rfl, t1⟩ := hP
          have H1 := t1.h H
          have p1 : M9 517 21 = p + 2 := t1.2.2.1.trans (by omega)
          have k1 : M9 517 23 = K := (t1.2.1 23 (by decide)).trans hk
          refine zr_if_eq (q := 45) (q2 := 9) dX12_withR_6 (by decide) rfl (fun h6 => ?_) (fun h6 => ?_)
          · exact absurd h6 (by decide)
          · refine zp_al0 (q := 10) dX12_withR_9 rfl ?_
            refine zr_iconst (q := 11) dX12_withR_10 rfl (z_in_of rfl) ?_
            refine zr_ldcS (k := 25) (ci := _) (q := 13) (by decide) rfl rfl dX12_withR_11 rfl ?_
            refine zf_callV2 (k517) (s_X12_isWord H1 (p := p + 2) p1 (by omega) (by omega) k1 (by omega) (by omega) zst_25 (w := [110, 107]) hm) mtX12_isWord wiX12_isWord weX12_isWord wlX12_195 (q := 16) dX12_withR_13 rfl rfl rfl rfl rfl rfl rfl (fun r S9 M9 h8 hP => ?_) (fun k S9 M9 hP => (z_no hP.1 rfl).elim)
            obtain ⟨rfl, rfl, t2, v2⟩ := hP
            have H2 := t2.h H1
            have p2 : M9 517 21 = zq1 (zCh9 L) p := t2.2.2.1.trans e1
            have k2 : M9 517 23 = K := (t2.2.1 23 (by decide)).trans k1
            refine zr_if_eq (q := 43) (q2 := 19) dX12_withR_16 (by decide) rfl (fun h16 => ?_) (fun h16 => ?_)
            · exact absurd h16 (by decide)
            · refine zp_al0 (q := 20) dX12_withR_19 rfl ?_
              refine zp_il1 (q := 21) dX12_withR_20 rfl ?_
              refine zr_iconst (q := 22) dX12_withR_21 rfl (z_in_of rfl) ?_
              refine zf_callV2 (k517) (s_X12_figures H2 (p := zq1 (zCh9 L) p) p2 (by omega) (by omega) (by omega) (by omega) (by decide) c1) mtX12_figures wiX12_figures weX12_figures wlX12_199 (q := 25) dX12_withR_22 rfl rfl rfl rfl rfl rfl rfl (fun r S9 M9 h8 hP => ?_) (fun k S9 M9 hP => (z_no hP.1 rfl).elim)
              obtain ⟨rfl, rfl, t3, v3⟩ := hP
              have H3 := t3.h H2
              have p3 : M9 517 21 = zq2 (zCh9 L) p := t3.2.2.1.trans f1
              have k3 : M9 517 23 = K := (t3.2.1 23 (by decide)).trans k2
              refine zr_if_eq (q := 43) (q2 := 28) dX12_withR_25 (by decide) rfl (fun h25 => ?_) (fun h25 => ?_)
              · exact absurd h25 (by decide)
              · refine zp_al0 (q := 29) dX12_withR_28 rfl ?_
                refine zp_il1 (q := 30) dX12_withR_29 rfl ?_
                refine zr_iconst (q := 31) dX12_withR_30 rfl (z_in_of rfl) ?_
                refine zr_iadd (q := 32) dX12_withR_31 rfl (fun hA hB => by unfold z_in at hA hB ⊢; omega) ?_
                refine zr_iconst (q := 33) dX12_withR_32 rfl (z_in_of rfl) ?_
                refine zf_callV2 (k517) (s_X12_figures_x H3 (p := zq2 (zCh9 L) p) p3 (by omega) (by omega) (by omega) (by omega) (by decide) c2) mtX12_figures wiX12_figures weX12_figures wlX12_199 (q := 36) dX12_withR_33 rfl rfl rfl rfl rfl rfl rfl (fun r S9 M9 h8 hP => ?_) (fun k S9 M9 hP => (z_no hP.1 rfl).elim)
                obtain ⟨rfl, rfl, t4⟩ := hP
                have p4 : M9 517 21 = zq3 (zCh9 L) p := t4.2.2.1.trans f2
                refine zr_if_eq (q := 43) (q2 := 39) dX12_withR_36 (by decide) rfl (fun h36 => ?_) (fun h36 => ?_)
                · refine zr_iconst (q := 44) dX12_withR_43 rfl (z_in_of rfl) ?_
                  refine zr_ireturn dX12_withR_44 rfl (z_fit_z (by decide)) ?_
                  exact hn (fun ho => c2x ho.2.2.1) _ (t1.t (t2.t (t3.t t4 (c := 5 * K) (d := 5 * K + 5) (fun j hj => by omega)) (c := 5 * K) (d := 5 * K + 5) (fun j hj => by omega)) (c := 5 * K) (d := 5 * K + 5) (fun j hj => by omega)) (p4.trans (zCe_2 (by omega) c1x c2x).symm)
                · exact absurd rfl h36
      · have c1x : ¬ zPo (zCh9 L) (zq1 (zCh9 L) p) (zD1 (zWw (zCh9 L) p)) := by rw [d1]; exact c1
        have hw : zWw (zCh9 L) p = 3 := by
          unfold zWw
          rw [if_neg (show ¬ zCh9 L p = 98 by omega), if_neg (show ¬ zCh9 L p = 115 by omega), if_neg (show ¬ zCh9 L p = 99 by omega), if_pos (show zCh9 L p = 114 by omega), if_pos (show zCh9 L (p + 1) = 97 by omega)]
          rw [if_pos (show zMt9 (zCh9 L) [110, 107] (p + 2) = 2 by omega)]
        have ha : zWa (zCh9 L) p = 2 + zMt9 (zCh9 L) [110, 107] (p + 2) := by
          unfold zWa
          rw [if_neg (show ¬ zCh9 L p = 98 by omega), if_neg (show ¬ zCh9 L p = 115 by omega), if_neg (show ¬ zCh9 L p = 99 by omega), if_pos (show zCh9 L p = 114 by omega), if_pos (show zCh9 L (p + 1) = 97 by omega)]
        have e1 : p + 2 + zMt9 (zCh9 L) [110, 107] (p + 2) = zq1 (zCh9 L) p := by
          unfold zq1
          omega
        have l0 := zCh9_lt (L := L) (p := p) (by omega) H.2.2
        have l1 := zCh9_lt (L := L) (p := p + 1) (by omega) H.2.2
        refine zp_al0 (q := 1) dX12_withR_0 rfl ?_
        refine zr_bipush (q := 3) dX12_withR_1 rfl (z_in_of rfl) (by decide +kernel) ?_
        refine zf_callV1 (k517) (s_X12_skips H hp (by omega) (by omega) (by decide) (show zCh9 L (p + 1) = 97 by omega)) mtX12_skips wiX12_skips weX12_skips wlX12_187 (q := 6) dX12_withR_3 rfl rfl rfl rfl rfl rfl rfl (fun r S9 M9 h8 hP => ?_) (fun k S9 M9 hP => (z_no hP.1 rfl).elim)
        obtain ⟨rfl, rfl, t1⟩ := hP
        have H1 := t1.h H
        have p1 : M9 517 21 = p + 2 := t1.2.2.1.trans (by omega)
        have k1 : M9 517 23 = K := (t1.2.1 23 (by decide)).trans hk
        refine zr_if_eq (q := 45) (q2 := 9) dX12_withR_6 (by decide) rfl (fun h6 => ?_) (fun h6 => ?_)
        · exact absurd h6 (by decide)
        · refine zp_al0 (q := 10) dX12_withR_9 rfl ?_
          refine zr_iconst (q := 11) dX12_withR_10 rfl (z_in_of rfl) ?_
          refine zr_ldcS (k := 25) (ci := _) (q := 13) (by decide) rfl rfl dX12_withR_11 rfl ?_
          refine zf_callV2 (k517) (s_X12_isWord H1 (p := p + 2) p1 (by omega) (by omega) k1 (by omega) (by omega) zst_25 (w := [110, 107]) hm) mtX12_isWord wiX12_isWord weX12_isWord wlX12_195 (q := 16) dX12_withR_13 rfl rfl rfl rfl rfl rfl rfl (fun r S9 M9 h8 hP => ?_) (fun k S9 M9 hP => (z_no hP.1 rfl).elim)
          obtain ⟨rfl, rfl, t2, v2⟩ := hP
          have H2 := t2.h H1
          have p2 : M9 517 21 = zq1 (zCh9 L) p := t2.2.2.1.trans e1
          have k2 : M9 517 23 = K := (t2.2.1 23 (by decide)).trans k1
          refine zr_if_eq (q := 43) (q2 := 19) dX12_withR_16 (by decide) rfl (fun h16 => ?_) (fun h16 => ?_)
          · exact absurd h16 (by decide)
          · refine zp_al0 (q := 20) dX12_withR_19 rfl ?_
            refine zp_il1 (q := 21) dX12_withR_20 rfl ?_
            refine zr_iconst (q := 22) dX12_withR_21 rfl (z_in_of rfl) ?_
            refine zf_callV2 (k517) (s_X12_figures_x H2 (p := zq1 (zCh9 L) p) p2 (by omega) (by omega) (by omega) (by omega) (by decide) c1) mtX12_figures wiX12_figures weX12_figures wlX12_199 (q := 25) dX12_withR_22 rfl rfl rfl rfl rfl rfl rfl (fun r S9 M9 h8 hP => ?_) (fun k S9 M9 hP => (z_no hP.1 rfl).elim)
            obtain ⟨rfl, rfl, t3⟩ := hP
            have p3 : M9 517 21 = zq2 (zCh9 L) p := t3.2.2.1.trans f1
            refine zr_if_eq (q := 43) (q2 := 28) dX12_withR_25 (by decide) rfl (fun h25 => ?_) (fun h25 => ?_)
            · refine zr_iconst (q := 44) dX12_withR_43 rfl (z_in_of rfl) ?_
              refine zr_ireturn dX12_withR_44 rfl (z_fit_z (by decide)) ?_
              exact hn (fun ho => c1x ho.2.1) _ (t1.t (t2.t t3 (c := 5 * K) (d := 5 * K + 5) (fun j hj => by omega)) (c := 5 * K) (d := 5 * K + 5) (fun j hj => by omega)) (p3.trans (zCe_1 (by omega) c1x).symm)
            · exact absurd rfl h25
    · have hw : zWw (zCh9 L) p = -1 := by
        unfold zWw
        rw [if_neg (show ¬ zCh9 L p = 98 by omega), if_neg (show ¬ zCh9 L p = 115 by omega), if_neg (show ¬ zCh9 L p = 99 by omega), if_pos (show zCh9 L p = 114 by omega), if_pos (show zCh9 L (p + 1) = 97 by omega)]
        rw [if_neg (show ¬ zMt9 (zCh9 L) [110, 107] (p + 2) = 2 by omega)]
      have ha : zWa (zCh9 L) p = 2 + zMt9 (zCh9 L) [110, 107] (p + 2) := by
        unfold zWa
        rw [if_neg (show ¬ zCh9 L p = 98 by omega), if_neg (show ¬ zCh9 L p = 115 by omega), if_neg (show ¬ zCh9 L p = 99 by omega), if_pos (show zCh9 L p = 114 by omega), if_pos (show zCh9 L (p + 1) = 97 by omega)]
      have e1 : p + 2 + zMt9 (zCh9 L) [110, 107] (p + 2) = zq1 (zCh9 L) p := by
        unfold zq1
        omega
      have l0 := zCh9_lt (L := L) (p := p) (by omega) H.2.2
      have l1 := zCh9_lt (L := L) (p := p + 1) (by omega) H.2.2
      refine zp_al0 (q := 1) dX12_withR_0 rfl ?_
      refine zr_bipush (q := 3) dX12_withR_1 rfl (z_in_of rfl) (by decide +kernel) ?_
      refine zf_callV1 (k517) (s_X12_skips H hp (by omega) (by omega) (by decide) (show zCh9 L (p + 1) = 97 by omega)) mtX12_skips wiX12_skips weX12_skips wlX12_187 (q := 6) dX12_withR_3 rfl rfl rfl rfl rfl rfl rfl (fun r S9 M9 h8 hP => ?_) (fun k S9 M9 hP => (z_no hP.1 rfl).elim)
      obtain ⟨rfl, rfl, t1⟩ := hP
      have H1 := t1.h H
      have p1 : M9 517 21 = p + 2 := t1.2.2.1.trans (by omega)
      have k1 : M9 517 23 = K := (t1.2.1 23 (by decide)).trans hk
      refine zr_if_eq (q := 45) (q2 := 9) dX12_withR_6 (by decide) rfl (fun h6 => ?_) (fun h6 => ?_)
      · exact absurd h6 (by decide)
      · refine zp_al0 (q := 10) dX12_withR_9 rfl ?_
        refine zr_iconst (q := 11) dX12_withR_10 rfl (z_in_of rfl) ?_
        refine zr_ldcS (k := 25) (ci := _) (q := 13) (by decide) rfl rfl dX12_withR_11 rfl ?_
        refine zf_callV2 (k517) (s_X12_isWord_x H1 (p := p + 2) p1 (by omega) (by omega) k1 (by omega) (by omega) zst_25 (w := [110, 107]) hm) mtX12_isWord wiX12_isWord weX12_isWord wlX12_195 (q := 16) dX12_withR_13 rfl rfl rfl rfl rfl rfl rfl (fun r S9 M9 h8 hP => ?_) (fun k S9 M9 hP => (z_no hP.1 rfl).elim)
        obtain ⟨rfl, rfl, t2⟩ := hP
        have p2 : M9 517 21 = zq1 (zCh9 L) p := t2.2.2.1.trans e1
        refine zr_if_eq (q := 43) (q2 := 19) dX12_withR_16 (by decide) rfl (fun h16 => ?_) (fun h16 => ?_)
        · refine zr_iconst (q := 44) dX12_withR_43 rfl (z_in_of rfl) ?_
          refine zr_ireturn dX12_withR_44 rfl (z_fit_z (by decide)) ?_
          exact hn (fun ho => by have := ho.1; omega) _ (t1.t t2 (c := 5 * K) (d := 5 * K + 5) (fun j hj => by omega)) (p2.trans (zCe_w (by omega)).symm)
        · exact absurd rfl h16
  by_cases e1b : zCh9 L (p + 1) = 101
  · by_cases e2 : zCh9 L (p + 2) = 109
    · have hmt := zMt9_range (zCh9 L) [111, 118, 101] (p + 3)
      rw [show (([111, 118, 101] : List Int).length : Int) = 3 from rfl] at hmt
      by_cases hm : zMt9 (zCh9 L) [111, 118, 101] (p + 3) = 3
      · have hww : zWw (zCh9 L) p = 4 := by
          unfold zWw
          rw [if_neg (show ¬ zCh9 L p = 98 by omega), if_neg (show ¬ zCh9 L p = 115 by omega), if_neg (show ¬ zCh9 L p = 99 by omega), if_pos (show zCh9 L p = 114 by omega), if_neg (show ¬ zCh9 L (p + 1) = 97 by omega), if_pos (show zCh9 L (p + 1) = 101 by omega), if_pos (show zCh9 L (p + 2) = 109 by omega)]
          rw [if_pos hm]
        have d1 : zD1 (zWw (zCh9 L) p) = 2 := by rw [hww]; rfl
        have d2 : zD2 (zWw (zCh9 L) p) = 0 := by rw [hww]; rfl
        have g10 := g9 (by omega)
        have f1 : zPe (zCh9 L) (zq1 (zCh9 L) p) 2 = zq2 (zCh9 L) p := by unfold zq2; rw [d1]
        have f2 : zq2 (zCh9 L) p = zq3 (zCh9 L) p := (if_pos d2).symm
        by_cases c1 : zPo (zCh9 L) (zq1 (zCh9 L) p) 2
        · have c1x : zPo (zCh9 L) (zq1 (zCh9 L) p) (zD1 (zWw (zCh9 L) p)) := by rw [d1]; exact c1
          have c2x : zPo (zCh9 L) (zq2 (zCh9 L) p) (zD2 (zWw (zCh9 L) p)) := Or.inl d2
          have hw : zWw (zCh9 L) p = 4 := by
            unfold zWw
            rw [if_neg (show ¬ zCh9 L p = 98 by omega), if_neg (show ¬ zCh9 L p = 115 by omega), if_neg (show ¬ zCh9 L p = 99 by omega), if_pos (show zCh9 L p = 114 by omega), if_neg (show ¬ zCh9 L (p + 1) = 97 by omega), if_pos (show zCh9 L (p + 1) = 101 by omega), if_pos (show zCh9 L (p + 2) = 109 by omega)]
            rw [if_pos (show zMt9 (zCh9 L) [111, 118, 101] (p + 3) = 3 by omega)]
          have ha : zWa (zCh9 L) p = 3 + zMt9 (zCh9 L) [111, 118, 101] (p + 3) := by
            unfold zWa
            rw [if_neg (show ¬ zCh9 L p = 98 by omega), if_neg (show ¬ zCh9 L p = 115 by omega), if_neg (show ¬ zCh9 L p = 99 by omega), if_pos (show zCh9 L p = 114 by omega), if_neg (show ¬ zCh9 L (p + 1) = 97 by omega), if_pos (show zCh9 L (p + 1) = 101 by omega), if_pos (show zCh9 L (p + 2) = 109 by omega)]
          have e1 : p + 3 + zMt9 (zCh9 L) [111, 118, 101] (p + 3) = zq1 (zCh9 L) p := by
            unfold zq1
            omega
          have l0 := zCh9_lt (L := L) (p := p) (by omega) H.2.2
          have l1 := zCh9_lt (L := L) (p := p + 1) (by omega) H.2.2
          have l2 := zCh9_lt (L := L) (p := p + 2) (by omega) H.2.2
          refine zp_al0 (q := 1) dX12_withR_0 rfl ?_
          refine zr_bipush (q := 3) dX12_withR_1 rfl (z_in_of rfl) (by decide +kernel) ?_
          refine zf_callV1 (k517) (s_X12_skips_x H hp (by omega) (show zCh9 L (p + 1) ≠ 97 by omega)) mtX12_skips wiX12_skips weX12_skips wlX12_187 (q := 6) dX12_withR_3 rfl rfl rfl rfl rfl rfl rfl (fun r S9 M9 h8 hP => ?_) (fun k S9 M9 hP => (z_no hP.1 rfl).elim)
          obtain ⟨rfl, rfl, h9⟩ := hP
          subst M9
          refine zr_if_eq (q := 45) (q2 := 9) dX12_withR_6 (by decide) rfl (fun h6 => ?_) (fun h6 => ?_)
          · refine zp_al0 (q := 46) dX12_withR_45 rfl ?_
            refine zr_bipush (q := 48) dX12_withR_46 rfl (z_in_of rfl) (by decide +kernel) ?_
            refine zf_callV1 (k517) (s_X12_skips H hp (by omega) (by omega) (by decide) (show zCh9 L (p + 1) = 101 by omega)) mtX12_skips wiX12_skips weX12_skips wlX12_187 (q := 51) dX12_withR_48 rfl rfl rfl rfl rfl rfl rfl (fun r S9 M9 h8 hP => ?_) (fun k S9 M9 hP => (z_no hP.1 rfl).elim)
            obtain ⟨rfl, rfl, t1⟩ := hP
            have H1 := t1.h H
            have p1 : M9 517 21 = p + 2 := t1.2.2.1.trans (by omega)
            have k1 : M9 517 23 = K := (t1.2.1 23 (by decide)).trans hk
            refine zr_if_ne (q := 56) (q2 := 54) dX12_withR_51 (by decide) rfl (fun h51 => ?_) (fun h51 => ?_)
            · refine zp_al0 (q := 57) dX12_withR_56 rfl ?_
              refine zr_bipush (q := 59) dX12_withR_57 rfl (z_in_of rfl) (by decide +kernel) ?_
              refine zf_callV1 (k517) (s_X12_skips H1 p1 (by omega) (by omega) (by decide) (show zCh9 L (p + 2) = 109 by omega)) mtX12_skips wiX12_skips weX12_skips wlX12_187 (q := 62) dX12_withR_59 rfl rfl rfl rfl rfl rfl rfl (fun r S9 M9 h8 hP => ?_) (fun k S9 M9 hP => (z_no hP.1 rfl).elim)
              obtain ⟨rfl, rfl, t2⟩ := hP
              have H2 := t2.h H1
              have p2 : M9 517 21 = p + 3 := t2.2.2.1.trans (by omega)
              have k2 : M9 517 23 = K := (t2.2.1 23 (by decide)).trans k1
              refine zr_if_eq (q := 90) (q2 := 65) dX12_withR_62 (by decide) rfl (fun h62 => ?_) (fun h62 => ?_)
              · exact absurd h62 (by decide)
              · refine zp_al0 (q := 66) dX12_withR_65 rfl ?_
                refine zr_iconst (q := 67) dX12_withR_66 rfl (z_in_of rfl) ?_
                refine zr_ldcS (k := 26) (ci := _) (q := 69) (by decide) rfl rfl dX12_withR_67 rfl ?_
                refine zf_callV2 (k517) (s_X12_isWord H2 (p := p + 3) p2 (by omega) (by omega) k2 (by omega) (by omega) zst_26 (w := [111, 118, 101]) hm) mtX12_isWord wiX12_isWord weX12_isWord wlX12_195 (q := 72) dX12_withR_69 rfl rfl rfl rfl rfl rfl rfl (fun r S9 M9 h8 hP => ?_) (fun k S9 M9 hP => (z_no hP.1 rfl).elim)
                obtain ⟨rfl, rfl, t3, v3⟩ := hP
                have H3 := t3.h H2
                have p3 : M9 517 21 = zq1 (zCh9 L) p := t3.2.2.1.trans e1
                have k3 : M9 517 23 = K := (t3.2.1 23 (by decide)).trans k2
                refine zr_if_eq (q := 88) (q2 := 75) dX12_withR_72 (by decide) rfl (fun h72 => ?_) (fun h72 => ?_)
                · exact absurd h72 (by decide)
                · refine zp_al0 (q := 76) dX12_withR_75 rfl ?_
                  refine zp_il1 (q := 77) dX12_withR_76 rfl ?_
                  refine zr_iconst (q := 78) dX12_withR_77 rfl (z_in_of rfl) ?_
                  refine zf_callV2 (k517) (s_X12_figures H3 (p := zq1 (zCh9 L) p) p3 (by omega) (by omega) (by omega) (by omega) (by decide) c1) mtX12_figures wiX12_figures weX12_figures wlX12_199 (q := 81) dX12_withR_78 rfl rfl rfl rfl rfl rfl rfl (fun r S9 M9 h8 hP => ?_) (fun k S9 M9 hP => (z_no hP.1 rfl).elim)
                  obtain ⟨rfl, rfl, t4, v4⟩ := hP
                  have H4 := t4.h H3
                  have p4 : M9 517 21 = zq2 (zCh9 L) p := t4.2.2.1.trans f1
                  have k4 : M9 517 23 = K := (t4.2.1 23 (by decide)).trans k3
                  refine zr_if_eq (q := 88) (q2 := 84) dX12_withR_81 (by decide) rfl (fun h81 => ?_) (fun h81 => ?_)
                  · exact absurd h81 (by decide)
                  · refine zr_iconst (q := 85) dX12_withR_84 rfl (z_in_of rfl) ?_
                    refine zr_goto (q := 89) dX12_withR_85 (by decide) ?_
                    refine zr_ireturn dX12_withR_89 rfl (z_fit_z (by decide)) ?_
                    refine hy ⟨by omega, c1x, c2x, fun h => absurd (hw.symm.trans h) (by decide)⟩ _ (t1.t (t2.t (t3.t t4 (c := 5 * K) (d := 5 * K + 5) (fun j hj => by omega)) (c := 5 * K) (d := 5 * K + 5) (fun j hj => by omega)) (c := 5 * K) (d := 5 * K + 5) (fun j hj => by omega)) ((p4.trans f2).trans (zCe_3 (by omega) c1x c2x (by omega)).symm) ⟨?_, ?_, ?_, ?_⟩
                    · rw [hw, t4.2.2.2 (5 * K) (by omega)]
                      exact v3
                    · intro _
                      rw [d1]
                      exact v4
                    · exact fun h => absurd d2 h
                    · exact fun h => absurd (hw.symm.trans h) (by decide)
            · exact absurd (by decide) h51
          · exact absurd rfl h6
        · have c1x : ¬ zPo (zCh9 L) (zq1 (zCh9 L) p) (zD1 (zWw (zCh9 L) p)) := by rw [d1]; exact c1
          have hw : zWw (zCh9 L) p = 4 := by
            unfold zWw
            rw [if_neg (show ¬ zCh9 L p = 98 by omega), if_neg (show ¬ zCh9 L p = 115 by omega), if_neg (show ¬ zCh9 L p = 99 by omega), if_pos (show zCh9 L p = 114 by omega), if_neg (show ¬ zCh9 L (p + 1) = 97 by omega), if_pos (show zCh9 L (p + 1) = 101 by omega), if_pos (show zCh9 L (p + 2) = 109 by omega)]
            rw [if_pos (show zMt9 (zCh9 L) [111, 118, 101] (p + 3) = 3 by omega)]
          have ha : zWa (zCh9 L) p = 3 + zMt9 (zCh9 L) [111, 118, 101] (p + 3) := by
            unfold zWa
            rw [if_neg (show ¬ zCh9 L p = 98 by omega), if_neg (show ¬ zCh9 L p = 115 by omega), if_neg (show ¬ zCh9 L p = 99 by omega), if_pos (show zCh9 L p = 114 by omega), if_neg (show ¬ zCh9 L (p + 1) = 97 by omega), if_pos (show zCh9 L (p + 1) = 101 by omega), if_pos (show zCh9 L (p + 2) = 109 by omega)]
          have e1 : p + 3 + zMt9 (zCh9 L) [111, 118, 101] (p + 3) = zq1 (zCh9 L) p := by
            unfold zq1
            omega
          have l0 := zCh9_lt (L := L) (p := p) (by omega) H.2.2
          have l1 := zCh9_lt (L := L) (p := p + 1) (by omega) H.2.2
          have l2 := zCh9_lt (L := L) (p := p + 2) (by omega) H.2.2
          refine zp_al0 (q := 1) dX12_withR_0 rfl ?_
          refine zr_bipush (q := 3) dX12_withR_1 rfl (z_in_of rfl) (by decide +kernel) ?_
          refine zf_callV1 (k517) (s_X12_skips_x H hp (by omega) (show zCh9 L (p + 1) ≠ 97 by omega)) mtX12_skips wiX12_skips weX12_skips wlX12_187 (q := 6) dX12_withR_3 rfl rfl rfl rfl rfl rfl rfl (fun r S9 M9 h8 hP => ?_) (fun k S9 M9 hP => (z_no hP.1 rfl).elim)
          obtain ⟨rfl, rfl, h9⟩ := hP
          subst M9
          refine zr_if_eq (q := 45) (q2 := 9) dX12_withR_6 (by decide) rfl (fun h6 => ?_) (fun h6 => ?_)
          · refine zp_al0 (q := 46) dX12_withR_45 rfl ?_
            refine zr_bipush (q := 48) dX12_withR_46 rfl (z_in_of rfl) (by decide +kernel) ?_
            refine zf_callV1 (k517) (s_X12_skips H hp (by omega) (by omega) (by decide) (show zCh9 L (p + 1) = 101 by omega)) mtX12_skips wiX12_skips weX12_skips wlX12_187 (q := 51) dX12_withR_48 rfl rfl rfl rfl rfl rfl rfl (fun r S9 M9 h8 hP => ?_) (fun k S9 M9 hP => (z_no hP.1 rfl).elim)
            obtain ⟨rfl, rfl, t1⟩ := hP
            have H1 := t1.h H
            have p1 : M9 517 21 = p + 2 := t1.2.2.1.trans (by omega)
            have k1 : M9 517 23 = K := (t1.2.1 23 (by decide)).trans hk
            refine zr_if_ne (q := 56) (q2 := 54) dX12_withR_51 (by decide) rfl (fun h51 => ?_) (fun h51 => ?_)
            · refine zp_al0 (q := 57) dX12_withR_56 rfl ?_
              refine zr_bipush (q := 59) dX12_withR_57 rfl (z_in_of rfl) (by decide +kernel) ?_
              refine zf_callV1 (k517) (s_X12_skips H1 p1 (by omega) (by omega) (by decide) (show zCh9 L (p + 2) = 109 by omega)) mtX12_skips wiX12_skips weX12_skips wlX12_187 (q := 62) dX12_withR_59 rfl rfl rfl rfl rfl rfl rfl (fun r S9 M9 h8 hP => ?_) (fun k S9 M9 hP => (z_no hP.1 rfl).elim)
              obtain ⟨rfl, rfl, t2⟩ := hP
              have H2 := t2.h H1
              have p2 : M9 517 21 = p + 3 := t2.2.2.1.trans (by omega)
              have k2 : M9 517 23 = K := (t2.2.1 23 (by decide)).trans k1
              refine zr_if_eq (q := 90) (q2 := 65) dX12_withR_62 (by decide) rfl (fun h62 => ?_) (fun h62 => ?_)
              · exact absurd h62 (by decide)
              · refine zp_al0 (q := 66) dX12_withR_65 rfl ?_
                refine zr_iconst (q := 67) dX12_withR_66 rfl (z_in_of rfl) ?_
                refine zr_ldcS (k := 26) (ci := _) (q := 69) (by decide) rfl rfl dX12_withR_67 rfl ?_
                refine zf_callV2 (k517) (s_X12_isWord H2 (p := p + 3) p2 (by omega) (by omega) k2 (by omega) (by omega) zst_26 (w := [111, 118, 101]) hm) mtX12_isWord wiX12_isWord weX12_isWord wlX12_195 (q := 72) dX12_withR_69 rfl rfl rfl rfl rfl rfl rfl (fun r S9 M9 h8 hP => ?_) (fun k S9 M9 hP => (z_no hP.1 rfl).elim)
                obtain ⟨rfl, rfl, t3, v3⟩ := hP
                have H3 := t3.h H2
                have p3 : M9 517 21 = zq1 (zCh9 L) p := t3.2.2.1.trans e1
                have k3 : M9 517 23 = K := (t3.2.1 23 (by decide)).trans k2
                refine zr_if_eq (q := 88) (q2 := 75) dX12_withR_72 (by decide) rfl (fun h72 => ?_) (fun h72 => ?_)
                · exact absurd h72 (by decide)
                · refine zp_al0 (q := 76) dX12_withR_75 rfl ?_
                  refine zp_il1 (q := 77) dX12_withR_76 rfl ?_
                  refine zr_iconst (q := 78) dX12_withR_77 rfl (z_in_of rfl) ?_
                  refine zf_callV2 (k517) (s_X12_figures_x H3 (p := zq1 (zCh9 L) p) p3 (by omega) (by omega) (by omega) (by omega) (by decide) c1) mtX12_figures wiX12_figures weX12_figures wlX12_199 (q := 81) dX12_withR_78 rfl rfl rfl rfl rfl rfl rfl (fun r S9 M9 h8 hP => ?_) (fun k S9 M9 hP => (z_no hP.1 rfl).elim)
                  obtain ⟨rfl, rfl, t4⟩ := hP
                  have p4 : M9 517 21 = zq2 (zCh9 L) p := t4.2.2.1.trans f1
                  refine zr_if_eq (q := 88) (q2 := 84) dX12_withR_81 (by decide) rfl (fun h81 => ?_) (fun h81 => ?_)
                  · refine zr_iconst (q := 89) dX12_withR_88 rfl (z_in_of rfl) ?_
                    refine zr_ireturn dX12_withR_89 rfl (z_fit_z (by decide)) ?_
                    exact hn (fun ho => c1x ho.2.1) _ (t1.t (t2.t (t3.t t4 (c := 5 * K) (d := 5 * K + 5) (fun j hj => by omega)) (c := 5 * K) (d := 5 * K + 5) (fun j hj => by omega)) (c := 5 * K) (d := 5 * K + 5) (fun j hj => by omega)) (p4.trans (zCe_1 (by omega) c1x).symm)
                  · exact absurd rfl h81
            · exact absurd (by decide) h51
          · exact absurd rfl h6
      · have hw : zWw (zCh9 L) p = -1 := by
          unfold zWw
          rw [if_neg (show ¬ zCh9 L p = 98 by omega), if_neg (show ¬ zCh9 L p = 115 by omega), if_neg (show ¬ zCh9 L p = 99 by omega), if_pos (show zCh9 L p = 114 by omega), if_neg (show ¬ zCh9 L (p + 1) = 97 by omega), if_pos (show zCh9 L (p + 1) = 101 by omega), if_pos (show zCh9 L (p + 2) = 109 by omega)]
          rw [if_neg (show ¬ zMt9 (zCh9 L) [111, 118, 101] (p + 3) = 3 by omega)]
        have ha : zWa (zCh9 L) p = 3 + zMt9 (zCh9 L) [111, 118, 101] (p + 3) := by
          unfold zWa
          rw [if_neg (show ¬ zCh9 L p = 98 by omega), if_neg (show ¬ zCh9 L p = 115 by omega), if_neg (show ¬ zCh9 L p = 99 by omega), if_pos (show zCh9 L p = 114 by omega), if_neg (show ¬ zCh9 L (p + 1) = 97 by omega), if_pos (show zCh9 L (p + 1) = 101 by omega), if_pos (show zCh9 L (p + 2) = 109 by omega)]
        have e1 : p + 3 + zMt9 (zCh9 L) [111, 118, 101] (p + 3) = zq1 (zCh9 L) p := by
          unfold zq1
          omega
        have l0 := zCh9_lt (L := L) (p := p) (by omega) H.2.2
        have l1 := zCh9_lt (L := L) (p := p + 1) (by omega) H.2.2
        have l2 := zCh9_lt (L := L) (p := p + 2) (by omega) H.2.2
        refine zp_al0 (q := 1) dX12_withR_0 rfl ?_
        refine zr_bipush (q := 3) dX12_withR_1 rfl (z_in_of rfl) (by decide +kernel) ?_
        refine zf_callV1 (k517) (s_X12_skips_x H hp (by omega) (show zCh9 L (p + 1) ≠ 97 by omega)) mtX12_skips wiX12_skips weX12_skips wlX12_187 (q := 6) dX12_withR_3 rfl rfl rfl rfl rfl rfl rfl (fun r S9 M9 h8 hP => ?_) (fun k S9 M9 hP => (z_no hP.1 rfl).elim)
        obtain ⟨rfl, rfl, h9⟩ := hP
        subst M9
        refine zr_if_eq (q := 45) (q2 := 9) dX12_withR_6 (by decide) rfl (fun h6 => ?_) (fun h6 => ?_)
        · refine zp_al0 (q := 46) dX12_withR_45 rfl ?_
          refine zr_bipush (q := 48) dX12_withR_46 rfl (z_in_of rfl) (by decide +kernel) ?_
          refine zf_callV1 (k517) (s_X12_skips H hp (by omega) (by omega) (by decide) (show zCh9 L (p + 1) = 101 by omega)) mtX12_skips wiX12_skips weX12_skips wlX12_187 (q := 51) dX12_withR_48 rfl rfl rfl rfl rfl rfl rfl (fun r S9 M9 h8 hP => ?_) (fun k S9 M9 hP => (z_no hP.1 rfl).elim)
          obtain ⟨rfl, rfl, t1⟩ := hP
          have H1 := t1.h H
          have p1 : M9 517 21 = p + 2 := t1.2.2.1.trans (by omega)
          have k1 : M9 517 23 = K := (t1.2.1 23 (by decide)).trans hk
          refine zr_if_ne (q := 56) (q2 := 54) dX12_withR_51 (by decide) rfl (fun h51 => ?_) (fun h51 => ?_)
          · refine zp_al0 (q := 57) dX12_withR_56 rfl ?_
            refine zr_bipush (q := 59) dX12_withR_57 rfl (z_in_of rfl) (by decide +kernel) ?_
            refine zf_callV1 (k517) (s_X12_skips H1 p1 (by omega) (by omega) (by decide) (show zCh9 L (p + 2) = 109 by omega)) mtX12_skips wiX12_skips weX12_skips wlX12_187 (q := 62) dX12_withR_59 rfl rfl rfl rfl rfl rfl rfl (fun r S9 M9 h8 hP => ?_) (fun k S9 M9 hP => (z_no hP.1 rfl).elim)
            obtain ⟨rfl, rfl, t2⟩ := hP
            have H2 := t2.h H1
            have p2 : M9 517 21 = p + 3 := t2.2.2.1.trans (by omega)
            have k2 : M9 517 23 = K := (t2.2.1 23 (by decide)).trans k1
            refine zr_if_eq (q := 90) (q2 := 65) dX12_withR_62 (by decide) rfl (fun h62 => ?_) (fun h62 => ?_)
            · exact absurd h62 (by decide)
            · refine zp_al0 (q := 66) dX12_withR_65 rfl ?_
              refine zr_iconst (q := 67) dX12_withR_66 rfl (z_in_of rfl) ?_
              refine zr_ldcS (k := 26) (ci := _) (q := 69) (by decide) rfl rfl dX12_withR_67 rfl ?_
              refine zf_callV2 (k517) (s_X12_isWord_x H2 (p := p + 3) p2 (by omega) (by omega) k2 (by omega) (by omega) zst_26 (w := [111, 118, 101]) hm) mtX12_isWord wiX12_isWord weX12_isWord wlX12_195 (q := 72) dX12_withR_69 rfl rfl rfl rfl rfl rfl rfl (fun r S9 M9 h8 hP => ?_) (fun k S9 M9 hP => (z_no hP.1 rfl).elim)
              obtain ⟨rfl, rfl, t3⟩ := hP
              have p3 : M9 517 21 = zq1 (zCh9 L) p := t3.2.2.1.trans e1
              refine zr_if_eq (q := 88) (q2 := 75) dX12_withR_72 (by decide) rfl (fun h72 => ?_) (fun h72 => ?_)
              · refine zr_iconst (q := 89) dX12_withR_88 rfl (z_in_of rfl) ?_
                refine zr_ireturn dX12_withR_89 rfl (z_fit_z (by decide)) ?_
                exact hn (fun ho => by have := ho.1; omega) _ (t1.t (t2.t t3 (c := 5 * K) (d := 5 * K + 5) (fun j hj => by omega)) (c := 5 * K) (d := 5 * K + 5) (fun j hj => by omega)) (p3.trans (zCe_w (by omega)).symm)
              · exact absurd rfl h72
          · exact absurd (by decide) h51
        · exact absurd rfl h6
    by_cases e2b : zCh9 L (p + 2) = 99
    · have hmt := zMt9_range (zCh9 L) [111, 117, 110, 116] (p + 3)
      rw [show (([111, 117, 110, 116] : List Int).length : Int) = 4 from rfl] at hmt
      by_cases hm : zMt9 (zCh9 L) [111, 117, 110, 116] (p + 3) = 4
      · have hww : zWw (zCh9 L) p = 5 := by
          unfold zWw
          rw [if_neg (show ¬ zCh9 L p = 98 by omega), if_neg (show ¬ zCh9 L p = 115 by omega), if_neg (show ¬ zCh9 L p = 99 by omega), if_pos (show zCh9 L p = 114 by omega), if_neg (show ¬ zCh9 L (p + 1) = 97 by omega), if_pos (show zCh9 L (p + 1) = 101 by omega), if_neg (show ¬ zCh9 L (p + 2) = 109 by omega), if_pos (show zCh9 L (p + 2) = 99 by omega)]
          rw [if_pos hm]
        have d1 : zD1 (zWw (zCh9 L) p) = 2 := by rw [hww]; rfl
        have d2 : zD2 (zWw (zCh9 L) p) = 2 := by rw [hww]; rfl
        have g10 := g9 (by omega)
        have f1 : zPe (zCh9 L) (zq1 (zCh9 L) p) 2 = zq2 (zCh9 L) p := by unfold zq2; rw [d1]
        have f2 : zPe (zCh9 L) (zq2 (zCh9 L) p) 2 = zq3 (zCh9 L) p := by unfold zq3; rw [d2]
        by_cases c1 : zPo (zCh9 L) (zq1 (zCh9 L) p) 2
        · have c1x : zPo (zCh9 L) (zq1 (zCh9 L) p) (zD1 (zWw (zCh9 L) p)) := by rw [d1]; exact c1
          by_cases c2 : zPo (zCh9 L) (zq2 (zCh9 L) p) 2
          · have c2x : zPo (zCh9 L) (zq2 (zCh9 L) p) (zD2 (zWw (zCh9 L) p)) := by rw [d2]; exact c2
            have hw : zWw (zCh9 L) p = 5 := by
              unfold zWw
              rw [if_neg (show ¬ zCh9 L p = 98 by omega), if_neg (show ¬ zCh9 L p = 115 by omega), if_neg (show ¬ zCh9 L p = 99 by omega), if_pos (show zCh9 L p = 114 by omega), if_neg (show ¬ zCh9 L (p + 1) = 97 by omega), if_pos (show zCh9 L (p + 1) = 101 by omega), if_neg (show ¬ zCh9 L (p + 2) = 109 by omega), if_pos (show zCh9 L (p + 2) = 99 by omega)]
              rw [if_pos (show zMt9 (zCh9 L) [111, 117, 110, 116] (p + 3) = 4 by omega)]
            have ha : zWa (zCh9 L) p = 3 + zMt9 (zCh9 L) [111, 117, 110, 116] (p + 3) := by
              unfold zWa
              rw [if_neg (show ¬ zCh9 L p = 98 by omega), if_neg (show ¬ zCh9 L p = 115 by omega), if_neg (show ¬ zCh9 L p = 99 by omega), if_pos (show zCh9 L p = 114 by omega), if_neg (show ¬ zCh9 L (p + 1) = 97 by omega), if_pos (show zCh9 L (p + 1) = 101 by omega), if_neg (show ¬ zCh9 L (p + 2) = 109 by omega), if_pos (show zCh9 L (p + 2) = 99 by omega)]
            have e1 : p + 3 + zMt9 (zCh9 L) [111, 117, 110, 116] (p + 3) = zq1 (zCh9 L) p := by
              unfold zq1
              omega
            have l0 := zCh9_lt (L := L) (p := p) (by omega) H.2.2
            have l1 := zCh9_lt (L := L) (p := p + 1) (by omega) H.2.2
            have l2 := zCh9_lt (L := L) (p := p + 2) (by omega) H.2.2
            refine zp_al0 (q := 1) dX12_withR_0 rfl ?_
            refine zr_bipush (q := 3) dX12_withR_1 rfl (z_in_of rfl) (by decide +kernel) ?_
            refine zf_callV1 (k517) (s_X12_skips_x H hp (by omega) (show zCh9 L (p + 1) ≠ 97 by omega)) mtX12_skips wiX12_skips weX12_skips wlX12_187 (q := 6) dX12_withR_3 rfl rfl rfl rfl rfl rfl rfl (fun r S9 M9 h8 hP => ?_) (fun k S9 M9 hP => (z_no hP.1 rfl).elim)
            obtain ⟨rfl, rfl, h9⟩ := hP
            subst M9
            refine zr_if_eq (q := 45) (q2 := 9) dX12_withR_6 (by decide) rfl (fun h6 => ?_) (fun h6 => ?_)
            · refine zp_al0 (q := 46) dX12_withR_45 rfl ?_
              refine zr_bipush (q := 48) dX12_withR_46 rfl (z_in_of rfl) (by decide +kernel) ?_
              refine zf_callV1 (k517) (s_X12_skips H hp (by omega) (by omega) (by decide) (show zCh9 L (p + 1) = 101 by omega)) mtX12_skips wiX12_skips weX12_skips wlX12_187 (q := 51) dX12_withR_48 rfl rfl rfl rfl rfl rfl rfl (fun r S9 M9 h8 hP => ?_) (fun k S9 M9 hP => (z_no hP.1 rfl).elim)
              obtain ⟨rfl, rfl, t1⟩ := hP
              have H1 := t1.h H
              have p1 : M9 517 21 = p + 2 := t1.2.2.1.trans (by omega)
              have k1 : M9 517 23 = K := (t1.2.1 23 (by decide)).trans hk
              refine zr_if_ne (q := 56) (q2 := 54) dX12_withR_51 (by decide) rfl (fun h51 => ?_) (fun h51 => ?_)
              · refine zp_al0 (q := 57) dX12_withR_56 rfl ?_
                refine zr_bipush (q := 59) dX12_withR_57 rfl (z_in_of rfl) (by decide +kernel) ?_
                refine zf_callV1 (k517) (s_X12_skips_x H1 p1 (by omega) (show zCh9 L (p + 2) ≠ 109 by omega)) mtX12_skips wiX12_skips weX12_skips wlX12_187 (q := 62) dX12_withR_59 rfl rfl rfl rfl rfl rfl rfl (fun r S9 M9 h8 hP => ?_) (fun k S9 M9 hP => (z_no hP.1 rfl).elim)
                obtain ⟨rfl, rfl, h9⟩ := hP
                subst M9
                refine zr_if_eq (q := 90) (q2 := 65) dX12_withR_62 (by decide) rfl (fun h62 => ?_) (fun h62 => ?_)
                · refine zp_al0 (q := 91) dX12_withR_90 rfl ?_
                  refine zr_bipush (q := 93) dX12_withR_91 rfl (z_in_of rfl) (by decide +kernel) ?_
                  refine zf_callV1 (k517) (s_X12_skips H1 p1 (by omega) (by omega) (by decide) (show zCh9 L (p + 2) = 99 by omega)) mtX12_skips wiX12_skips weX12_skips wlX12_187 (q := 96) dX12_withR_93 rfl rfl rfl rfl rfl rfl rfl (fun r S9 M9 h8 hP => ?_) (fun k S9 M9 hP => (z_no hP.1 rfl).elim)
                  obtain ⟨rfl, rfl, t2⟩ := hP
                  have H2 := t2.h H1
                  have p2 : M9 517 21 = p + 3 := t2.2.2.1.trans (by omega)
                  have k2 : M9 517 23 = K := (t2.2.1 23 (by decide)).trans k1
                  refine zr_if_eq (q := 133) (q2 := 99) dX12_withR_96 (by decide) rfl (fun h96 => ?_) (fun h96 => ?_)
                  · exact absurd h96 (by decide)
                  · refine zp_al0 (q := 100) dX12_withR_99 rfl ?_
                    refine zr_iconst (q := 101) dX12_withR_100 rfl (z_in_of rfl) ?_
                    refine zr_ldcS (k := 27) (ci := _) (q := 103) (by decide) rfl rfl dX12_withR_101 rfl ?_
                    refine zf_callV2 (k517) (s_X12_isWord H2 (p := p + 3) p2 (by omega) (by omega) k2 (by omega) (by omega) zst_27 (w := [111, 117, 110, 116]) hm) mtX12_isWord wiX12_isWord weX12_isWord wlX12_195 (q := 106) dX12_withR_103 rfl rfl rfl rfl rfl rfl rfl (fun r S9 M9 h8 hP => ?_) (fun k S9 M9 hP => (z_no hP.1 rfl).elim)
                    obtain ⟨rfl, rfl, t3, v3⟩ := hP
                    have H3 := t3.h H2
                    have p3 : M9 517 21 = zq1 (zCh9 L) p := t3.2.2.1.trans e1
                    have k3 : M9 517 23 = K := (t3.2.1 23 (by decide)).trans k2
                    refine zr_if_eq (q := 133) (q2 := 109) dX12_withR_106 (by decide) rfl (fun h106 => ?_) (fun h106 => ?_)
                    · exact absurd h106 (by decide)
                    · refine zp_al0 (q := 110) dX12_withR_109 rfl ?_
                      refine zp_il1 (q := 111) dX12_withR_110 rfl ?_
                      refine zr_iconst (q := 112) dX12_withR_111 rfl (z_in_of rfl) ?_
                      refine zf_callV2 (k517) (s_X12_figures H3 (p := zq1 (zCh9 L) p) p3 (by omega) (by omega) (by omega) (by omega) (by decide) c1) mtX12_figures wiX12_figures weX12_figures wlX12_199 (q := 115) dX12_withR_112 rfl rfl rfl rfl rfl rfl rfl (fun r S9 M9 h8 hP => ?_) (fun k S9 M9 hP => (z_no hP.1 rfl).elim)
                      obtain ⟨rfl, rfl, t4, v4⟩ := hP
                      have H4 := t4.h H3
                      have p4 : M9 517 21 = zq2 (zCh9 L) p := t4.2.2.1.trans f1
                      have k4 : M9 517 23 = K := (t4.2.1 23 (by decide)).trans k3
                      refine zr_if_eq (q := 133) (q2 := 118) dX12_withR_115 (by decide) rfl (fun h115 => ?_) (fun h115 => ?_)
                      · exact absurd h115 (by decide)
                      · refine zp_al0 (q := 119) dX12_withR_118 rfl ?_
                        refine zp_il1 (q := 120) dX12_withR_119 rfl ?_
                        refine zr_iconst (q := 121) dX12_withR_120 rfl (z_in_of rfl) ?_
                        refine zr_iadd (q := 122) dX12_withR_121 rfl (fun hA hB => by unfold z_in at hA hB ⊢; omega) ?_
                        refine zr_iconst (q := 123) dX12_withR_122 rfl (z_in_of rfl) ?_
                        refine zf_callV2 (k517) (s_X12_figures H4 (p := zq2 (zCh9 L) p) p4 (by omega) (by omega) (by omega) (by omega) (by decide) c2) mtX12_figures wiX12_figures weX12_figures wlX12_199 (q := 126) dX12_withR_123 rfl rfl rfl rfl rfl rfl rfl (fun r S9 M9 h8 hP => ?_) (fun k S9 M9 hP => (z_no hP.1 rfl).elim)
                        obtain ⟨rfl, rfl, t5, v5⟩ := hP
                        have H5 := t5.h H4
                        have p5 : M9 517 21 = zq3 (zCh9 L) p := t5.2.2.1.trans f2
                        have k5 : M9 517 23 = K := (t5.2.1 23 (by decide)).trans k4
                        refine zr_if_eq (q := 133) (q2 := 129) dX12_withR_126 (by decide) rfl (fun h126 => ?_) (fun h126 => ?_)
                        · exact absurd h126 (by decide)
                        · refine zr_iconst (q := 130) dX12_withR_129 rfl (z_in_of rfl) ?_
                          refine zr_goto (q := 134) dX12_withR_130 (by decide) ?_
                          refine zr_ireturn dX12_withR_134 rfl (z_fit_z (by decide)) ?_
                          refine hy ⟨by omega, c1x, c2x, fun h => absurd (hw.symm.trans h) (by decide)⟩ _ (t1.t (t2.t (t3.t (t4.t t5 (c := 5 * K) (d := 5 * K + 5) (fun j hj => by omega)) (c := 5 * K) (d := 5 * K + 5) (fun j hj => by omega)) (c := 5 * K) (d := 5 * K + 5) (fun j hj => by omega)) (c := 5 * K) (d := 5 * K + 5) (fun j hj => by omega)) (p5.trans (zCe_3 (by omega) c1x c2x (by omega)).symm) ⟨?_, ?_, ?_, ?_⟩
                          · rw [hw, t5.2.2.2 (5 * K) (by omega), t4.2.2.2 (5 * K) (by omega)]
                            exact v3
                          · intro _
                            rw [t5.2.2.2 (5 * K + 1) (by omega)]
                            rw [d1]
                            exact v4
                          · intro _
                            rw [show 5 * K + 2 = 5 * K + 1 + 1 by omega]
                            rw [d2]
                            exact v5
                          · exact fun h => absurd (hw.symm.trans h) (by decide)
                · exact absurd rfl h62
              · exact absurd (by decide) h51
            · exact absurd rfl h6
          · have c2x : ¬ zPo (zCh9 L) (zq2 (zCh9 L) p) (zD2 (zWw (zCh9 L) p)) := by rw [d2]; exact c2
            have hw : zWw (zCh9 L) p = 5 := by
              unfold zWw
              rw [if_neg (show ¬ zCh9 L p = 98 by omega), if_neg (show ¬ zCh9 L p = 115 by omega), if_neg (show ¬ zCh9 L p = 99 by omega), if_pos (show zCh9 L p = 114 by omega), if_neg (show ¬ zCh9 L (p + 1) = 97 by omega), if_pos (show zCh9 L (p + 1) = 101 by omega), if_neg (show ¬ zCh9 L (p + 2) = 109 by omega), if_pos (show zCh9 L (p + 2) = 99 by omega)]
              rw [if_pos (show zMt9 (zCh9 L) [111, 117, 110, 116] (p + 3) = 4 by omega)]
            have ha : zWa (zCh9 L) p = 3 + zMt9 (zCh9 L) [111, 117, 110, 116] (p + 3) := by
              unfold zWa
              rw [if_neg (show ¬ zCh9 L p = 98 by omega), if_neg (show ¬ zCh9 L p = 115 by omega), if_neg (show ¬ zCh9 L p = 99 by omega), if_pos (show zCh9 L p = 114 by omega), if_neg (show ¬ zCh9 L (p + 1) = 97 by omega), if_pos (show zCh9 L (p + 1) = 101 by omega), if_neg (show ¬ zCh9 L (p + 2) = 109 by omega), if_pos (show zCh9 L (p + 2) = 99 by omega)]
            have e1 : p + 3 + zMt9 (zCh9 L) [111, 117, 110, 116] (p + 3) = zq1 (zCh9 L) p := by
              unfold zq1
              omega
            have l0 := zCh9_lt (L := L) (p := p) (by omega) H.2.2
            have l1 := zCh9_lt (L := L) (p := p + 1) (by omega) H.2.2
            have l2 := zCh9_lt (L := L) (p := p + 2) (by omega) H.2.2
            refine zp_al0 (q := 1) dX12_withR_0 rfl ?_
            refine zr_bipush (q := 3) dX12_withR_1 rfl (z_in_of rfl) (by decide +kernel) ?_
            refine zf_callV1 (k517) (s_X12_skips_x H hp (by omega) (show zCh9 L (p + 1) ≠ 97 by omega)) mtX12_skips wiX12_skips weX12_skips wlX12_187 (q := 6) dX12_withR_3 rfl rfl rfl rfl rfl rfl rfl (fun r S9 M9 h8 hP => ?_) (fun k S9 M9 hP => (z_no hP.1 rfl).elim)
            obtain ⟨rfl, rfl, h9⟩ := hP
            subst M9
            refine zr_if_eq (q := 45) (q2 := 9) dX12_withR_6 (by decide) rfl (fun h6 => ?_) (fun h6 => ?_)
            · refine zp_al0 (q := 46) dX12_withR_45 rfl ?_
              refine zr_bipush (q := 48) dX12_withR_46 rfl (z_in_of rfl) (by decide +kernel) ?_
              refine zf_callV1 (k517) (s_X12_skips H hp (by omega) (by omega) (by decide) (show zCh9 L (p + 1) = 101 by omega)) mtX12_skips wiX12_skips weX12_skips wlX12_187 (q := 51) dX12_withR_48 rfl rfl rfl rfl rfl rfl rfl (fun r S9 M9 h8 hP => ?_) (fun k S9 M9 hP => (z_no hP.1 rfl).elim)
              obtain ⟨rfl, rfl, t1⟩ := hP
              have H1 := t1.h H
              have p1 : M9 517 21 = p + 2 := t1.2.2.1.trans (by omega)
              have k1 : M9 517 23 = K := (t1.2.1 23 (by decide)).trans hk
              refine zr_if_ne (q := 56) (q2 := 54) dX12_withR_51 (by decide) rfl (fun h51 => ?_) (fun h51 => ?_)
              · refine zp_al0 (q := 57) dX12_withR_56 rfl ?_
                refine zr_bipush (q := 59) dX12_withR_57 rfl (z_in_of rfl) (by decide +kernel) ?_
                refine zf_callV1 (k517) (s_X12_skips_x H1 p1 (by omega) (show zCh9 L (p + 2) ≠ 109 by omega)) mtX12_skips wiX12_skips weX12_skips wlX12_187 (q := 62) dX12_withR_59 rfl rfl rfl rfl rfl rfl rfl (fun r S9 M9 h8 hP => ?_) (fun k S9 M9 hP => (z_no hP.1 rfl).elim)
                obtain ⟨rfl, rfl, h9⟩ := hP
                subst M9
                refine zr_if_eq (q := 90) (q2 := 65) dX12_withR_62 (by decide) rfl (fun h62 => ?_) (fun h62 => ?_)
                · refine zp_al0 (q := 91) dX12_withR_90 rfl ?_
                  refine zr_bipush (q := 93) dX12_withR_91 rfl (z_in_of rfl) (by decide +kernel) ?_
                  refine zf_callV1 (k517) (s_X12_skips H1 p1 (by omega) (by omega) (by decide) (show zCh9 L (p + 2) = 99 by omega)) mtX12_skips wiX12_skips weX12_skips wlX12_187 (q := 96) dX12_withR_93 rfl rfl rfl rfl rfl rfl rfl (fun r S9 M9 h8 hP => ?_) (fun k S9 M9 hP => (z_no hP.1 rfl).elim)
                  obtain ⟨rfl, rfl, t2⟩ := hP
                  have H2 := t2.h H1
                  have p2 : M9 517 21 = p + 3 := t2.2.2.1.trans (by omega)
                  have k2 : M9 517 23 = K := (t2.2.1 23 (by decide)).trans k1
                  refine zr_if_eq (q := 133) (q2 := 99) dX12_withR_96 (by decide) rfl (fun h96 => ?_) (fun h96 => ?_)
                  · exact absurd h96 (by decide)
                  · refine zp_al0 (q := 100) dX12_withR_99 rfl ?_
                    refine zr_iconst (q := 101) dX12_withR_100 rfl (z_in_of rfl) ?_
                    refine zr_ldcS (k := 27) (ci := _) (q := 103) (by decide) rfl rfl dX12_withR_101 rfl ?_
                    refine zf_callV2 (k517) (s_X12_isWord H2 (p := p + 3) p2 (by omega) (by omega) k2 (by omega) (by omega) zst_27 (w := [111, 117, 110, 116]) hm) mtX12_isWord wiX12_isWord weX12_isWord wlX12_195 (q := 106) dX12_withR_103 rfl rfl rfl rfl rfl rfl rfl (fun r S9 M9 h8 hP => ?_) (fun k S9 M9 hP => (z_no hP.1 rfl).elim)
                    obtain ⟨rfl, rfl, t3, v3⟩ := hP
                    have H3 := t3.h H2
                    have p3 : M9 517 21 = zq1 (zCh9 L) p := t3.2.2.1.trans e1
                    have k3 : M9 517 23 = K := (t3.2.1 23 (by decide)).trans k2
                    refine zr_if_eq (q := 133) (q2 := 109) dX12_withR_106 (by decide) rfl (fun h106 => ?_) (fun h106 => ?_)
                    · exact absurd h106 (by decide)
                    · refine zp_al0 (q := 110) dX12_withR_109 rfl ?_
                      refine zp_il1 (q := 111) dX12_withR_110 rfl ?_
                      refine zr_iconst (q := 112) dX12_withR_111 rfl (z_in_of rfl) ?_
                      refine zf_callV2 (k517) (s_X12_figures H3 (p := zq1 (zCh9 L) p) p3 (by omega) (by omega) (by omega) (by omega) (by decide) c1) mtX12_figures wiX12_figures weX12_figures wlX12_199 (q := 115) dX12_withR_112 rfl rfl rfl rfl rfl rfl rfl (fun r S9 M9 h8 hP => ?_) (fun k S9 M9 hP => (z_no hP.1 rfl).elim)
                      obtain ⟨rfl, rfl, t4, v4⟩ := hP
                      have H4 := t4.h H3
                      have p4 : M9 517 21 = zq2 (zCh9 L) p := t4.2.2.1.trans f1
                      have k4 : M9 517 23 = K := (t4.2.1 23 (by decide)).trans k3
                      refine zr_if_eq (q := 133) (q2 := 118) dX12_withR_115 (by decide) rfl (fun h115 => ?_) (fun h115 => ?_)
                      · exact absurd h115 (by decide)
                      · refine zp_al0 (q := 119) dX12_withR_118 rfl ?_
                        refine zp_il1 (q := 120) dX12_withR_119 rfl ?_
                        refine zr_iconst (q := 121) dX12_withR_120 rfl (z_in_of rfl) ?_
                        refine zr_iadd (q := 122) dX12_withR_121 rfl (fun hA hB => by unfold z_in at hA hB ⊢; omega) ?_
                        refine zr_iconst (q := 123) dX12_withR_122 rfl (z_in_of rfl) ?_
                        refine zf_callV2 (k517) (s_X12_figures_x H4 (p := zq2 (zCh9 L) p) p4 (by omega) (by omega) (by omega) (by omega) (by decide) c2) mtX12_figures wiX12_figures weX12_figures wlX12_199 (q := 126) dX12_withR_123 rfl rfl rfl rfl rfl rfl rfl (fun r S9 M9 h8 hP => ?_) (fun k S9 M9 hP => (z_no hP.1 rfl).elim)
                        obtain ⟨rfl, rfl, t5⟩ := hP
                        have p5 : M9 517 21 = zq3 (zCh9 L) p := t5.2.2.1.trans f2
                        refine zr_if_eq (q := 133) (q2 := 129) dX12_withR_126 (by decide) rfl (fun h126 => ?_) (fun h126 => ?_)
                        · refine zr_iconst (q := 134) dX12_withR_133 rfl (z_in_of rfl) ?_
                          refine zr_ireturn dX12_withR_134 rfl (z_fit_z (by decide)) ?_
                          exact hn (fun ho => c2x ho.2.2.1) _ (t1.t (t2.t (t3.t (t4.t t5 (c := 5 * K) (d := 5 * K + 5) (fun j hj => by omega)) (c := 5 * K) (d := 5 * K + 5) (fun j hj => by omega)) (c := 5 * K) (d := 5 * K + 5) (fun j hj => by omega)) (c := 5 * K) (d := 5 * K + 5) (fun j hj => by omega)) (p5.trans (zCe_2 (by omega) c1x c2x).symm)
                        · exact absurd rfl h126
                · exact absurd rfl h62
              · exact absurd (by decide) h51
            · exact absurd rfl h6
        · have c1x : ¬ zPo (zCh9 L) (zq1 (zCh9 L) p) (zD1 (zWw (zCh9 L) p)) := by rw [d1]; exact c1
          have hw : zWw (zCh9 L) p = 5 := by
            unfold zWw
            rw [if_neg (show ¬ zCh9 L p = 98 by omega), if_neg (show ¬ zCh9 L p = 115 by omega), if_neg (show ¬ zCh9 L p = 99 by omega), if_pos (show zCh9 L p = 114 by omega), if_neg (show ¬ zCh9 L (p + 1) = 97 by omega), if_pos (show zCh9 L (p + 1) = 101 by omega), if_neg (show ¬ zCh9 L (p + 2) = 109 by omega), if_pos (show zCh9 L (p + 2) = 99 by omega)]
            rw [if_pos (show zMt9 (zCh9 L) [111, 117, 110, 116] (p + 3) = 4 by omega)]
          have ha : zWa (zCh9 L) p = 3 + zMt9 (zCh9 L) [111, 117, 110, 116] (p + 3) := by
            unfold zWa
            rw [if_neg (show ¬ zCh9 L p = 98 by omega), if_neg (show ¬ zCh9 L p = 115 by omega), if_neg (show ¬ zCh9 L p = 99 by omega), if_pos (show zCh9 L p = 114 by omega), if_neg (show ¬ zCh9 L (p + 1) = 97 by omega), if_pos (show zCh9 L (p + 1) = 101 by omega), if_neg (show ¬ zCh9 L (p + 2) = 109 by omega), if_pos (show zCh9 L (p + 2) = 99 by omega)]
          have e1 : p + 3 + zMt9 (zCh9 L) [111, 117, 110, 116] (p + 3) = zq1 (zCh9 L) p := by
            unfold zq1
            omega
          have l0 := zCh9_lt (L := L) (p := p) (by omega) H.2.2
          have l1 := zCh9_lt (L := L) (p := p + 1) (by omega) H.2.2
          have l2 := zCh9_lt (L := L) (p := p + 2) (by omega) H.2.2
          refine zp_al0 (q := 1) dX12_withR_0 rfl ?_
          refine zr_bipush (q := 3) dX12_withR_1 rfl (z_in_of rfl) (by decide +kernel) ?_
          refine zf_callV1 (k517) (s_X12_skips_x H hp (by omega) (show zCh9 L (p + 1) ≠ 97 by omega)) mtX12_skips wiX12_skips weX12_skips wlX12_187 (q := 6) dX12_withR_3 rfl rfl rfl rfl rfl rfl rfl (fun r S9 M9 h8 hP => ?_) (fun k S9 M9 hP => (z_no hP.1 rfl).elim)
          obtain ⟨rfl, rfl, h9⟩ := hP
          subst M9
          refine zr_if_eq (q := 45) (q2 := 9) dX12_withR_6 (by decide) rfl (fun h6 => ?_) (fun h6 => ?_)
          · refine zp_al0 (q := 46) dX12_withR_45 rfl ?_
            refine zr_bipush (q := 48) dX12_withR_46 rfl (z_in_of rfl) (by decide +kernel) ?_
            refine zf_callV1 (k517) (s_X12_skips H hp (by omega) (by omega) (by decide) (show zCh9 L (p + 1) = 101 by omega)) mtX12_skips wiX12_skips weX12_skips wlX12_187 (q := 51) dX12_withR_48 rfl rfl rfl rfl rfl rfl rfl (fun r S9 M9 h8 hP => ?_) (fun k S9 M9 hP => (z_no hP.1 rfl).elim)
            obtain ⟨rfl, rfl, t1⟩ := hP
            have H1 := t1.h H
            have p1 : M9 517 21 = p + 2 := t1.2.2.1.trans (by omega)
            have k1 : M9 517 23 = K := (t1.2.1 23 (by decide)).trans hk
            refine zr_if_ne (q := 56) (q2 := 54) dX12_withR_51 (by decide) rfl (fun h51 => ?_) (fun h51 => ?_)
            · refine zp_al0 (q := 57) dX12_withR_56 rfl ?_
              refine zr_bipush (q := 59) dX12_withR_57 rfl (z_in_of rfl) (by decide +kernel) ?_
              refine zf_callV1 (k517) (s_X12_skips_x H1 p1 (by omega) (show zCh9 L (p + 2) ≠ 109 by omega)) mtX12_skips wiX12_skips weX12_skips wlX12_187 (q := 62) dX12_withR_59 rfl rfl rfl rfl rfl rfl rfl (fun r S9 M9 h8 hP => ?_) (fun k S9 M9 hP => (z_no hP.1 rfl).elim)
              obtain ⟨rfl, rfl, h9⟩ := hP
              subst M9
              refine zr_if_eq (q := 90) (q2 := 65) dX12_withR_62 (by decide) rfl (fun h62 => ?_) (fun h62 => ?_)
              · refine zp_al0 (q := 91) dX12_withR_90 rfl ?_
                refine zr_bipush (q := 93) dX12_withR_91 rfl (z_in_of rfl) (by decide +kernel) ?_
                refine zf_callV1 (k517) (s_X12_skips H1 p1 (by omega) (by omega) (by decide) (show zCh9 L (p + 2) = 99 by omega)) mtX12_skips wiX12_skips weX12_skips wlX12_187 (q := 96) dX12_withR_93 rfl rfl rfl rfl rfl rfl rfl (fun r S9 M9 h8 hP => ?_) (fun k S9 M9 hP => (z_no hP.1 rfl).elim)
                obtain ⟨rfl, rfl, t2⟩ := hP
                have H2 := t2.h H1
                have p2 : M9 517 21 = p + 3 := t2.2.2.1.trans (by omega)
                have k2 : M9 517 23 = K := (t2.2.1 23 (by decide)).trans k1
                refine zr_if_eq (q := 133) (q2 := 99) dX12_withR_96 (by decide) rfl (fun h96 => ?_) (fun h96 => ?_)
                · exact absurd h96 (by decide)
                · refine zp_al0 (q := 100) dX12_withR_99 rfl ?_
                  refine zr_iconst (q := 101) dX12_withR_100 rfl (z_in_of rfl) ?_
                  refine zr_ldcS (k := 27) (ci := _) (q := 103) (by decide) rfl rfl dX12_withR_101 rfl ?_
                  refine zf_callV2 (k517) (s_X12_isWord H2 (p := p + 3) p2 (by omega) (by omega) k2 (by omega) (by omega) zst_27 (w := [111, 117, 110, 116]) hm) mtX12_isWord wiX12_isWord weX12_isWord wlX12_195 (q := 106) dX12_withR_103 rfl rfl rfl rfl rfl rfl rfl (fun r S9 M9 h8 hP => ?_) (fun k S9 M9 hP => (z_no hP.1 rfl).elim)
                  obtain ⟨rfl, rfl, t3, v3⟩ := hP
                  have H3 := t3.h H2
                  have p3 : M9 517 21 = zq1 (zCh9 L) p := t3.2.2.1.trans e1
                  have k3 : M9 517 23 = K := (t3.2.1 23 (by decide)).trans k2
                  refine zr_if_eq (q := 133) (q2 := 109) dX12_withR_106 (by decide) rfl (fun h106 => ?_) (fun h106 => ?_)
                  · exact absurd h106 (by decide)
                  · refine zp_al0 (q := 110) dX12_withR_109 rfl ?_
                    refine zp_il1 (q := 111) dX12_withR_110 rfl ?_
                    refine zr_iconst (q := 112) dX12_withR_111 rfl (z_in_of rfl) ?_
                    refine zf_callV2 (k517) (s_X12_figures_x H3 (p := zq1 (zCh9 L) p) p3 (by omega) (by omega) (by omega) (by omega) (by decide) c1) mtX12_figures wiX12_figures weX12_figures wlX12_199 (q := 115) dX12_withR_112 rfl rfl rfl rfl rfl rfl rfl (fun r S9 M9 h8 hP => ?_) (fun k S9 M9 hP => (z_no hP.1 rfl).elim)
                    obtain ⟨rfl, rfl, t4⟩ := hP
                    have p4 : M9 517 21 = zq2 (zCh9 L) p := t4.2.2.1.trans f1
                    refine zr_if_eq (q := 133) (q2 := 118) dX12_withR_115 (by decide) rfl (fun h115 => ?_) (fun h115 => ?_)
                    · refine zr_iconst (q := 134) dX12_withR_133 rfl (z_in_of rfl) ?_
                      refine zr_ireturn dX12_withR_134 rfl (z_fit_z (by decide)) ?_
                      exact hn (fun ho => c1x ho.2.1) _ (t1.t (t2.t (t3.t t4 (c := 5 * K) (d := 5 * K + 5) (fun j hj => by omega)) (c := 5 * K) (d := 5 * K + 5) (fun j hj => by omega)) (c := 5 * K) (d := 5 * K + 5) (fun j hj => by omega)) (p4.trans (zCe_1 (by omega) c1x).symm)
                    · exact absurd rfl h115
              · exact absurd rfl h62
            · exact absurd (by decide) h51
          · exact absurd rfl h6
      · have hw : zWw (zCh9 L) p = -1 := by
          unfold zWw
          rw [if_neg (show ¬ zCh9 L p = 98 by omega), if_neg (show ¬ zCh9 L p = 115 by omega), if_neg (show ¬ zCh9 L p = 99 by omega), if_pos (show zCh9 L p = 114 by omega), if_neg (show ¬ zCh9 L (p + 1) = 97 by omega), if_pos (show zCh9 L (p + 1) = 101 by omega), if_neg (show ¬ zCh9 L (p + 2) = 109 by omega), if_pos (show zCh9 L (p + 2) = 99 by omega)]
          rw [if_neg (show ¬ zMt9 (zCh9 L) [111, 117, 110, 116] (p + 3) = 4 by omega)]
        have ha : zWa (zCh9 L) p = 3 + zMt9 (zCh9 L) [111, 117, 110, 116] (p + 3) := by
          unfold zWa
          rw [if_neg (show ¬ zCh9 L p = 98 by omega), if_neg (show ¬ zCh9 L p = 115 by omega), if_neg (show ¬ zCh9 L p = 99 by omega), if_pos (show zCh9 L p = 114 by omega), if_neg (show ¬ zCh9 L (p + 1) = 97 by omega), if_pos (show zCh9 L (p + 1) = 101 by omega), if_neg (show ¬ zCh9 L (p + 2) = 109 by omega), if_pos (show zCh9 L (p + 2) = 99 by omega)]
        have e1 : p + 3 + zMt9 (zCh9 L) [111, 117, 110, 116] (p + 3) = zq1 (zCh9 L) p := by
          unfold zq1
          omega
        have l0 := zCh9_lt (L := L) (p := p) (by omega) H.2.2
        have l1 := zCh9_lt (L := L) (p := p + 1) (by omega) H.2.2
        have l2 := zCh9_lt (L := L) (p := p + 2) (by omega) H.2.2
        refine zp_al0 (q := 1) dX12_withR_0 rfl ?_
        refine zr_bipush (q := 3) dX12_withR_1 rfl (z_in_of rfl) (by decide +kernel) ?_
        refine zf_callV1 (k517) (s_X12_skips_x H hp (by omega) (show zCh9 L (p + 1) ≠ 97 by omega)) mtX12_skips wiX12_skips weX12_skips wlX12_187 (q := 6) dX12_withR_3 rfl rfl rfl rfl rfl rfl rfl (fun r S9 M9 h8 hP => ?_) (fun k S9 M9 hP => (z_no hP.1 rfl).elim)
        obtain ⟨rfl, rfl, h9⟩ := hP
        subst M9
        refine zr_if_eq (q := 45) (q2 := 9) dX12_withR_6 (by decide) rfl (fun h6 => ?_) (fun h6 => ?_)
        · refine zp_al0 (q := 46) dX12_withR_45 rfl ?_
          refine zr_bipush (q := 48) dX12_withR_46 rfl (z_in_of rfl) (by decide +kernel) ?_
          refine zf_callV1 (k517) (s_X12_skips H hp (by omega) (by omega) (by decide) (show zCh9 L (p + 1) = 101 by omega)) mtX12_skips wiX12_skips weX12_skips wlX12_187 (q := 51) dX12_withR_48 rfl rfl rfl rfl rfl rfl rfl (fun r S9 M9 h8 hP => ?_) (fun k S9 M9 hP => (z_no hP.1 rfl).elim)
          obtain ⟨rfl, rfl, t1⟩ := hP
          have H1 := t1.h H
          have p1 : M9 517 21 = p + 2 := t1.2.2.1.trans (by omega)
          have k1 : M9 517 23 = K := (t1.2.1 23 (by decide)).trans hk
          refine zr_if_ne (q := 56) (q2 := 54) dX12_withR_51 (by decide) rfl (fun h51 => ?_) (fun h51 => ?_)
          · refine zp_al0 (q := 57) dX12_withR_56 rfl ?_
            refine zr_bipush (q := 59) dX12_withR_57 rfl (z_in_of rfl) (by decide +kernel) ?_
            refine zf_callV1 (k517) (s_X12_skips_x H1 p1 (by omega) (show zCh9 L (p + 2) ≠ 109 by omega)) mtX12_skips wiX12_skips weX12_skips wlX12_187 (q := 62) dX12_withR_59 rfl rfl rfl rfl rfl rfl rfl (fun r S9 M9 h8 hP => ?_) (fun k S9 M9 hP => (z_no hP.1 rfl).elim)
            obtain ⟨rfl, rfl, h9⟩ := hP
            subst M9
            refine zr_if_eq (q := 90) (q2 := 65) dX12_withR_62 (by decide) rfl (fun h62 => ?_) (fun h62 => ?_)
            · refine zp_al0 (q := 91) dX12_withR_90 rfl ?_
              refine zr_bipush (q := 93) dX12_withR_91 rfl (z_in_of rfl) (by decide +kernel) ?_
              refine zf_callV1 (k517) (s_X12_skips H1 p1 (by omega) (by omega) (by decide) (show zCh9 L (p + 2) = 99 by omega)) mtX12_skips wiX12_skips weX12_skips wlX12_187 (q := 96) dX12_withR_93 rfl rfl rfl rfl rfl rfl rfl (fun r S9 M9 h8 hP => ?_) (fun k S9 M9 hP => (z_no hP.1 rfl).elim)
              obtain ⟨rfl, rfl, t2⟩ := hP
              have H2 := t2.h H1
              have p2 : M9 517 21 = p + 3 := t2.2.2.1.trans (by omega)
              have k2 : M9 517 23 = K := (t2.2.1 23 (by decide)).trans k1
              refine zr_if_eq (q := 133) (q2 := 99) dX12_withR_96 (by decide) rfl (fun h96 => ?_) (fun h96 => ?_)
              · exact absurd h96 (by decide)
              · refine zp_al0 (q := 100) dX12_withR_99 rfl ?_
                refine zr_iconst (q := 101) dX12_withR_100 rfl (z_in_of rfl) ?_
                refine zr_ldcS (k := 27) (ci := _) (q := 103) (by decide) rfl rfl dX12_withR_101 rfl ?_
                refine zf_callV2 (k517) (s_X12_isWord_x H2 (p := p + 3) p2 (by omega) (by omega) k2 (by omega) (by omega) zst_27 (w := [111, 117, 110, 116]) hm) mtX12_isWord wiX12_isWord weX12_isWord wlX12_195 (q := 106) dX12_withR_103 rfl rfl rfl rfl rfl rfl rfl (fun r S9 M9 h8 hP => ?_) (fun k S9 M9 hP => (z_no hP.1 rfl).elim)
                obtain ⟨rfl, rfl, t3⟩ := hP
                have p3 : M9 517 21 = zq1 (zCh9 L) p := t3.2.2.1.trans e1
                refine zr_if_eq (q := 133) (q2 := 109) dX12_withR_106 (by decide) rfl (fun h106 => ?_) (fun h106 => ?_)
                · refine zr_iconst (q := 134) dX12_withR_133 rfl (z_in_of rfl) ?_
                  refine zr_ireturn dX12_withR_134 rfl (z_fit_z (by decide)) ?_
                  exact hn (fun ho => by have := ho.1; omega) _ (t1.t (t2.t t3 (c := 5 * K) (d := 5 * K + 5) (fun j hj => by omega)) (c := 5 * K) (d := 5 * K + 5) (fun j hj => by omega)) (p3.trans (zCe_w (by omega)).symm)
                · exact absurd rfl h106
            · exact absurd rfl h62
          · exact absurd (by decide) h51
        · exact absurd rfl h6
    have hw : zWw (zCh9 L) p = -1 := by
      unfold zWw
      rw [if_neg (show ¬ zCh9 L p = 98 by omega), if_neg (show ¬ zCh9 L p = 115 by omega), if_neg (show ¬ zCh9 L p = 99 by omega), if_pos (show zCh9 L p = 114 by omega), if_neg (show ¬ zCh9 L (p + 1) = 97 by omega), if_pos (show zCh9 L (p + 1) = 101 by omega), if_neg (show ¬ zCh9 L (p + 2) = 109 by omega), if_neg (show ¬ zCh9 L (p + 2) = 99 by omega)]
    have ha : zWa (zCh9 L) p = 2 := by
      unfold zWa
      rw [if_neg (show ¬ zCh9 L p = 98 by omega), if_neg (show ¬ zCh9 L p = 115 by omega), if_neg (show ¬ zCh9 L p = 99 by omega), if_pos (show zCh9 L p = 114 by omega), if_neg (show ¬ zCh9 L (p + 1) = 97 by omega), if_pos (show zCh9 L (p + 1) = 101 by omega), if_neg (show ¬ zCh9 L (p + 2) = 109 by omega), if_neg (show ¬ zCh9 L (p + 2) = 99 by omega)]
    have e1 : p + 2 = zq1 (zCh9 L) p := by
      unfold zq1
      omega
    have l0 := zCh9_lt (L := L) (p := p) (by omega) H.2.2
    have l1 := zCh9_lt (L := L) (p := p + 1) (by omega) H.2.2
    refine zp_al0 (q := 1) dX12_withR_0 rfl ?_
    refine zr_bipush (q := 3) dX12_withR_1 rfl (z_in_of rfl) (by decide +kernel) ?_
    refine zf_callV1 (k517) (s_X12_skips_x H hp (by omega) (show zCh9 L (p + 1) ≠ 97 by omega)) mtX12_skips wiX12_skips weX12_skips wlX12_187 (q := 6) dX12_withR_3 rfl rfl rfl rfl rfl rfl rfl (fun r S9 M9 h8 hP => ?_) (fun k S9 M9 hP => (z_no hP.1 rfl).elim)
    obtain ⟨rfl, rfl, h9⟩ := hP
    subst M9
    refine zr_if_eq (q := 45) (q2 := 9) dX12_withR_6 (by decide) rfl (fun h6 => ?_) (fun h6 => ?_)
    · refine zp_al0 (q := 46) dX12_withR_45 rfl ?_
      refine zr_bipush (q := 48) dX12_withR_46 rfl (z_in_of rfl) (by decide +kernel) ?_
      refine zf_callV1 (k517) (s_X12_skips H hp (by omega) (by omega) (by decide) (show zCh9 L (p + 1) = 101 by omega)) mtX12_skips wiX12_skips weX12_skips wlX12_187 (q := 51) dX12_withR_48 rfl rfl rfl rfl rfl rfl rfl (fun r S9 M9 h8 hP => ?_) (fun k S9 M9 hP => (z_no hP.1 rfl).elim)
      obtain ⟨rfl, rfl, t1⟩ := hP
      have H1 := t1.h H
      have p1 : M9 517 21 = p + 2 := t1.2.2.1.trans (by omega)
      have k1 : M9 517 23 = K := (t1.2.1 23 (by decide)).trans hk
      refine zr_if_ne (q := 56) (q2 := 54) dX12_withR_51 (by decide) rfl (fun h51 => ?_) (fun h51 => ?_)
      · refine zp_al0 (q := 57) dX12_withR_56 rfl ?_
        refine zr_bipush (q := 59) dX12_withR_57 rfl (z_in_of rfl) (by decide +kernel) ?_
        refine zf_callV1 (k517) (s_X12_skips_x H1 p1 (by omega) (show zCh9 L (p + 2) ≠ 109 by omega)) mtX12_skips wiX12_skips weX12_skips wlX12_187 (q := 62) dX12_withR_59 rfl rfl rfl rfl rfl rfl rfl (fun r S9 M9 h8 hP => ?_) (fun k S9 M9 hP => (z_no hP.1 rfl).elim)
        obtain ⟨rfl, rfl, h9⟩ := hP
        subst M9
        refine zr_if_eq (q := 90) (q2 := 65) dX12_withR_62 (by decide) rfl (fun h62 => ?_) (fun h62 => ?_)
        · refine zp_al0 (q := 91) dX12_withR_90 rfl ?_
          refine zr_bipush (q := 93) dX12_withR_91 rfl (z_in_of rfl) (by decide +kernel) ?_
          refine zf_callV1 (k517) (s_X12_skips_x H1 p1 (by omega) (show zCh9 L (p + 2) ≠ 99 by omega)) mtX12_skips wiX12_skips weX12_skips wlX12_187 (q := 96) dX12_withR_93 rfl rfl rfl rfl rfl rfl rfl (fun r S9 M9 h8 hP => ?_) (fun k S9 M9 hP => (z_no hP.1 rfl).elim)
          obtain ⟨rfl, rfl, h9⟩ := hP
          subst M9
          refine zr_if_eq (q := 133) (q2 := 99) dX12_withR_96 (by decide) rfl (fun h96 => ?_) (fun h96 => ?_)
          · refine zr_iconst (q := 134) dX12_withR_133 rfl (z_in_of rfl) ?_
            refine zr_ireturn dX12_withR_134 rfl (z_fit_z (by decide)) ?_
            exact hn (fun ho => by have := ho.1; omega) _ (t1.w (c := 5 * K) (d := 5 * K + 5) (fun j hj => by omega)) ((p1.trans e1).trans (zCe_w (by omega)).symm)
          · exact absurd rfl h96
        · exact absurd rfl h62
      · exact absurd (by decide) h51
    · exact absurd rfl h6
  have hw : zWw (zCh9 L) p = -1 := by
    unfold zWw
    rw [if_neg (show ¬ zCh9 L p = 98 by omega), if_neg (show ¬ zCh9 L p = 115 by omega), if_neg (show ¬ zCh9 L p = 99 by omega), if_pos (show zCh9 L p = 114 by omega), if_neg (show ¬ zCh9 L (p + 1) = 97 by omega), if_neg (show ¬ zCh9 L (p + 1) = 101 by omega)]
  have ha : zWa (zCh9 L) p = 1 := by
    unfold zWa
    rw [if_neg (show ¬ zCh9 L p = 98 by omega), if_neg (show ¬ zCh9 L p = 115 by omega), if_neg (show ¬ zCh9 L p = 99 by omega), if_pos (show zCh9 L p = 114 by omega), if_neg (show ¬ zCh9 L (p + 1) = 97 by omega), if_neg (show ¬ zCh9 L (p + 1) = 101 by omega)]
  have e1 : p + 1 = zq1 (zCh9 L) p := by
    unfold zq1
    omega
  have l0 := zCh9_lt (L := L) (p := p) (by omega) H.2.2
  refine zp_al0 (q := 1) dX12_withR_0 rfl ?_
  refine zr_bipush (q := 3) dX12_withR_1 rfl (z_in_of rfl) (by decide +kernel) ?_
  refine zf_callV1 (k517) (s_X12_skips_x H hp (by omega) (show zCh9 L (p + 1) ≠ 97 by omega)) mtX12_skips wiX12_skips weX12_skips wlX12_187 (q := 6) dX12_withR_3 rfl rfl rfl rfl rfl rfl rfl (fun r S9 M9 h8 hP => ?_) (fun k S9 M9 hP => (z_no hP.1 rfl).elim)
  obtain ⟨rfl, rfl, h9⟩ := hP
  subst M9
  refine zr_if_eq (q := 45) (q2 := 9) dX12_withR_6 (by decide) rfl (fun h6 => ?_) (fun h6 => ?_)
  · refine zp_al0 (q := 46) dX12_withR_45 rfl ?_
    refine zr_bipush (q := 48) dX12_withR_46 rfl (z_in_of rfl) (by decide +kernel) ?_
    refine zf_callV1 (k517) (s_X12_skips_x H hp (by omega) (show zCh9 L (p + 1) ≠ 101 by omega)) mtX12_skips wiX12_skips weX12_skips wlX12_187 (q := 51) dX12_withR_48 rfl rfl rfl rfl rfl rfl rfl (fun r S9 M9 h8 hP => ?_) (fun k S9 M9 hP => (z_no hP.1 rfl).elim)
    obtain ⟨rfl, rfl, h9⟩ := hP
    subst M9
    refine zr_if_ne (q := 56) (q2 := 54) dX12_withR_51 (by decide) rfl (fun h51 => ?_) (fun h51 => ?_)
    · exact absurd rfl h51
    · refine zr_iconst (q := 55) dX12_withR_54 rfl (z_in_of rfl) ?_
      refine zr_ireturn dX12_withR_55 rfl (z_fit_z (by decide)) ?_
      exact hn (fun ho => by have := ho.1; omega) _ (zTo.r M) ((hp.trans e1).trans (zCe_w (by omega)).symm)
  · exact absurd rfl h6
theorem s_X12_withR (H : zXh M L) (hE : zEd (zCh9 L) n) {p K : Int} (h0 : 0 ≤ p) (h1 : p ≤ n) (K0 : 0 ≤ K) (K1 : K ≤ 30) (hk : M 517 23 = K) (hp : M 517 21 = p + 1) (e0 : zCh9 L p = 114) (ho : zCo (zCh9 L) p) : z_Call mX12_withR zF [(1, 517), (0, 5 * K + 1)] M (fun r S' M' => r = (0, 1) ∧ S' = zF ∧ zTo M M' (5 * K) (5 * K + 5) (M' 517 21) ∧ M' 517 21 = zCe (zCh9 L) p ∧ zTd M' (zCh9 L) p K) :=
  s_X12_withR_q H hE h0 h1 K0 K1 hk hp e0 (fun _ M' x y z => ⟨rfl, rfl, x, y, z⟩) (fun h => absurd ho h)
theorem s_X12_withR_x (H : zXh M L) (hE : zEd (zCh9 L) n) {p K : Int} (h0 : 0 ≤ p) (h1 : p ≤ n) (K0 : 0 ≤ K) (K1 : K ≤ 30) (hk : M 517 23 = K) (hp : M 517 21 = p + 1) (e0 : zCh9 L p = 114) (ho : ¬ zCo (zCh9 L) p) : z_Call mX12_withR zF [(1, 517), (0, 5 * K + 1)] M (fun r S' M' => r = (0, 0) ∧ S' = zF ∧ zTo M M' (5 * K) (5 * K + 5) (M' 517 21) ∧ M' 517 21 = zCe (zCh9 L) p) :=
  s_X12_withR_q H hE h0 h1 K0 K1 hk hp e0 (fun h => absurd h ho) (fun _ M' x y => ⟨rfl, rfl, x, y⟩)
theorem s_X12_commandHere_q (H : zXh M L) (hE : zEd (zCh9 L) n) {p K : Int} (h0 : 0 ≤ p) (h1 : p ≤ n) (K0 : 0 ≤ K) (K1 : K ≤ 30) (hk : M 517 23 = K) (hp : M 517 21 = p) {Q : zV → zS → zM → Prop}
    (hy : zCo (zCh9 L) p → ∀ M', zTo M M' (5 * K) (5 * K + 5) (M' 517 21) → M' 517 21 = zCe (zCh9 L) p → zTd M' (zCh9 L) p K → Q (0, 1) zF M') (hn : ¬ zCo (zCh9 L) p → ∀ M', zTo M M' (5 * K) (5 * K + 5) (M' 517 21) → M' 517 21 = zCe (zCh9 L) p → Q (0, 0) zF M') : z_Call mX12_commandHere zF [(1, 517)] M Q := by
  obtain ⟨g1, g2, g3, g4, g5, g6, g7, g8, g9⟩ := zCe_rg hE h0 h1
  have hE1 := hE.2.1
  refine z_enter (k := 1) rfl rfl rfl ?_
  by_cases e98 : zCh9 L p = 98
  · have hmt := zMt9_range (zCh9 L) [97, 108, 108, 111, 116] (p + 1)
    rw [show (([97, 108, 108, 111, 116] : List Int).length : Int) = 5 from rfl] at hmt
    by_cases hm : zMt9 (zCh9 L) [97, 108, 108, 111, 116] (p + 1) = 5
    · have hww : zWw (zCh9 L) p = 2 := by
        unfold zWw
        rw [if_pos (show zCh9 L p = 98 by omega)]
        rw [if_pos hm]
      have d1 : zD1 (zWw (zCh9 L) p) = 2 := by rw [hww]; rfl
      have d2 : zD2 (zWw (zCh9 L) p) = 1 := by rw [hww]; rfl
      have g10 := g9 (by omega)
      have f1 : zPe (zCh9 L) (zq1 (zCh9 L) p) 2 = zq2 (zCh9 L) p := by unfold zq2; rw [d1]
      have f2 : zPe (zCh9 L) (zq2 (zCh9 L) p) 1 = zq3 (zCh9 L) p := by unfold zq3; rw [d2]
      by_cases c1 : zPo (zCh9 L) (zq1 (zCh9 L) p) 2
      · have c1x : zPo (zCh9 L) (zq1 (zCh9 L) p) (zD1 (zWw (zCh9 L) p)) := by rw [d1]; exact c1
        by_cases c2 : zPo (zCh9 L) (zq2 (zCh9 L) p) 1
        · have c2x : zPo (zCh9 L) (zq2 (zCh9 L) p) (zD2 (zWw (zCh9 L) p)) := by rw [d2]; exact c2
          have fm := zFm_end hE.2.2.1 60 (zq3 (zCh9 L) p) (by omega)
          have fr := zFm_range (zCh9 L) 60 (zq3 (zCh9 L) p)
          have fe : zFm (zCh9 L) 60 (zq3 (zCh9 L) p) = zFw9 (zCh9 L) (zq3 (zCh9 L) p) := rfl
          rw [fe] at fm fr
          by_cases c4 : zCh9 L (zq4 (zCh9 L) p) = 62
          · have hw : zWw (zCh9 L) p = 2 := by
              unfold zWw
              rw [if_pos (show zCh9 L p = 98 by omega)]
              rw [if_pos (show zMt9 (zCh9 L) [97, 108, 108, 111, 116] (p + 1) = 5 by omega)]
            have ha : zWa (zCh9 L) p = 1 + zMt9 (zCh9 L) [97, 108, 108, 111, 116] (p + 1) := by
              unfold zWa
              rw [if_pos (show zCh9 L p = 98 by omega)]
            have e1 : p + 1 + zMt9 (zCh9 L) [97, 108, 108, 111, 116] (p + 1) = zq1 (zCh9 L) p := by
              unfold zq1
              omega
            have l0 := zCh9_lt (L := L) (p := p) (by omega) H.2.2
            refine zr_iconst (q := 1) dX12_commandHere_0 rfl (z_in_of rfl) ?_
            refine zp_al0 (q := 2) dX12_commandHere_1 rfl ?_
            refine zf_getG (v := K) 23 (k517) (hk) rfl fdX12_176 (q := 5) dX12_commandHere_2 rfl rfl ?_
            refine zr_imul (q := 6) dX12_commandHere_5 rfl (fun hA hB => by unfold z_in at hA hB ⊢; omega) ?_
            refine zr_iconst (q := 7) dX12_commandHere_6 rfl (z_in_of rfl) ?_
            refine zr_iadd (q := 8) dX12_commandHere_7 rfl (fun hA hB => by unfold z_in at hA hB ⊢; omega) ?_
            refine zp_is1 (q := 9) dX12_commandHere_8 rfl rfl rfl ?_
            refine zp_al0 (q := 10) dX12_commandHere_9 rfl ?_
            refine zr_bipush (q := 12) dX12_commandHere_10 rfl (z_in_of rfl) (by decide +kernel) ?_
            refine zf_callV1 (k517) (s_X12_skips H hp (by omega) (by omega) (by decide) (show zCh9 L p = 98 by omega)) mtX12_skips wiX12_skips weX12_skips wlX12_187 (q := 15) dX12_commandHere_12 rfl rfl rfl rfl rfl rfl rfl (fun r S9 M9 h8 hP => ?_) (fun k S9 M9 hP => (z_no hP.1 rfl).elim)
            obtain ⟨rfl, rfl, t1⟩ := hP
            have H1 := t1.h H
            have p1 : M9 517 21 = p + 1 := t1.2.2.1.trans (by omega)
            have k1 : M9 517 23 = K := (t1.2.1 23 (by decide)).trans hk
            refine zr_if_eq (q := 62) (q2 := 18) dX12_commandHere_15 (by decide) rfl (fun h15 => ?_) (fun h15 => ?_)
            · exact absurd h15 (by decide)
            · refine zp_al0 (q := 19) dX12_commandHere_18 rfl ?_
              refine zr_iconst (q := 20) dX12_commandHere_19 rfl (z_in_of rfl) ?_
              refine zr_ldcS (k := 22) (ci := _) (q := 22) (by decide) rfl rfl dX12_commandHere_20 rfl ?_
              refine zf_callV2 (k517) (s_X12_isWord H1 (p := p + 1) p1 (by omega) (by omega) k1 (by omega) (by omega) zst_22 (w := [97, 108, 108, 111, 116]) hm) mtX12_isWord wiX12_isWord weX12_isWord wlX12_195 (q := 25) dX12_commandHere_22 rfl rfl rfl rfl rfl rfl rfl (fun r S9 M9 h8 hP => ?_) (fun k S9 M9 hP => (z_no hP.1 rfl).elim)
              obtain ⟨rfl, rfl, t2, v2⟩ := hP
              have H2 := t2.h H1
              have p2 : M9 517 21 = zq1 (zCh9 L) p := t2.2.2.1.trans e1
              have k2 : M9 517 23 = K := (t2.2.1 23 (by decide)).trans k1
              refine zr_if_eq (q := 60) (q2 := 28) dX12_commandHere_25 (by decide) rfl (fun h25 => ?_) (fun h25 => ?_)
              · exact absurd h25 (by decide)
              · refine zp_al0 (q := 29) dX12_commandHere_28 rfl ?_
                refine zp_il1 (q := 30) dX12_commandHere_29 rfl ?_
                refine zr_iconst (q := 31) dX12_commandHere_30 rfl (z_in_of rfl) ?_
                refine zf_callV2 (k517) (s_X12_figures H2 (p := zq1 (zCh9 L) p) p2 (by omega) (by omega) (by omega) (by omega) (by decide) c1) mtX12_figures wiX12_figures weX12_figures wlX12_199 (q := 34) dX12_commandHere_31 rfl rfl rfl rfl rfl rfl rfl (fun r S9 M9 h8 hP => ?_) (fun k S9 M9 hP => (z_no hP.1 rfl).elim)
                obtain ⟨rfl, rfl, t3, v3⟩ := hP
                have H3 := t3.h H2
                have p3 : M9 517 21 = zq2 (zCh9 L) p := t3.2.2.1.trans f1
                have k3 : M9 517 23 = K := (t3.2.1 23 (by decide)).trans k2
                refine zr_if_eq (q := 60) (q2 := 37) dX12_commandHere_34 (by decide) rfl (fun h34 => ?_) (fun h34 => ?_)
                · exact absurd h34 (by decide)
                · refine zp_al0 (q := 38) dX12_commandHere_37 rfl ?_
                  refine zp_il1 (q := 39) dX12_commandHere_38 rfl ?_
                  refine zr_iconst (q := 40) dX12_commandHere_39 rfl (z_in_of rfl) ?_
                  refine zr_iadd (q := 41) dX12_commandHere_40 rfl (fun hA hB => by unfold z_in at hA hB ⊢; omega) ?_
                  refine zr_iconst (q := 42) dX12_commandHere_41 rfl (z_in_of rfl) ?_
                  refine zf_callV2 (k517) (s_X12_figures H3 (p := zq2 (zCh9 L) p) p3 (by omega) (by omega) (by omega) (by omega) (by decide) c2) mtX12_figures wiX12_figures weX12_figures wlX12_199 (q := 45) dX12_commandHere_42 rfl rfl rfl rfl rfl rfl rfl (fun r S9 M9 h8 hP => ?_) (fun k S9 M9 hP => (z_no hP.1 rfl).elim)
                  obtain ⟨rfl, rfl, t4, v4⟩ := hP
                  have H4 := t4.h H3
                  have p4 : M9 517 21 = zq3 (zCh9 L) p := t4.2.2.1.trans f2
                  have k4 : M9 517 23 = K := (t4.2.1 23 (by decide)).trans k3
                  refine zr_if_eq (q := 60) (q2 := 48) dX12_commandHere_45 (by decide) rfl (fun h45 => ?_) (fun h45 => ?_)
                  · exact absurd h45 (by decide)
                  · refine zp_al0 (q := 49) dX12_commandHere_48 rfl ?_
                    refine zp_il1 (q := 50) dX12_commandHere_49 rfl ?_
                    refine zf_callV1 (k517) (s_X12_windsHere_x H4 (p := zq3 (zCh9 L) p) p4 (by omega) (by omega) (by omega) (by omega) (by omega) c4) mtX12_windsHere wiX12_windsHere weX12_windsHere wlX12_208 (q := 53) dX12_commandHere_50 rfl rfl rfl rfl rfl rfl rfl (fun r S9 M9 h8 hP => ?_) (fun k S9 M9 hP => (z_no hP.1 rfl).elim)
                    obtain ⟨rfl, rfl, t5⟩ := hP
                    have p5 : M9 517 21 = zq4 (zCh9 L) p + 1 := t5.2.2.1
                    refine zr_if_eq (q := 60) (q2 := 56) dX12_commandHere_53 (by decide) rfl (fun h53 => ?_) (fun h53 => ?_)
                    · refine zr_iconst (q := 61) dX12_commandHere_60 rfl (z_in_of rfl) ?_
                      refine zr_ireturn dX12_commandHere_61 rfl (z_fit_z (by decide)) ?_
                      exact hn (fun ho => ho.2.2.2 hw c4) _ (t1.t (t2.t (t3.t (t4.t t5 (c := 5 * K) (d := 5 * K + 5) (fun j hj => by omega)) (c := 5 * K) (d := 5 * K + 5) (fun j hj => by omega)) (c := 5 * K) (d := 5 * K + 5) (fun j hj => by omega)) (c := 5 * K) (d := 5 * K + 5) (fun j hj => by omega)) (p5.trans (zCe_5 (by omega) c1x c2x hw c4).symm)
                    · exact absurd rfl h53
          · have hw : zWw (zCh9 L) p = 2 := by
              unfold zWw
              rw [if_pos (show zCh9 L p = 98 by omega)]
              rw [if_pos (show zMt9 (zCh9 L) [97, 108, 108, 111, 116] (p + 1) = 5 by omega)]
            have ha : zWa (zCh9 L) p = 1 + zMt9 (zCh9 L) [97, 108, 108, 111, 116] (p + 1) := by
              unfold zWa
              rw [if_pos (show zCh9 L p = 98 by omega)]
            have e1 : p + 1 + zMt9 (zCh9 L) [97, 108, 108, 111, 116] (p + 1) = zq1 (zCh9 L) p := by
              unfold zq1
              omega
            have l0 := zCh9_lt (L := L) (p := p) (by omega) H.2.2
            refine zr_iconst (q := 1) dX12_commandHere_0 rfl (z_in_of rfl) ?_
            refine zp_al0 (q := 2) dX12_commandHere_1 rfl ?_
            refine zf_getG (v := K) 23 (k517) (hk) rfl fdX12_176 (q := 5) dX12_commandHere_2 rfl rfl ?_
            refine zr_imul (q := 6) dX12_commandHere_5 rfl (fun hA hB => by unfold z_in at hA hB ⊢; omega) ?_
            refine zr_iconst (q := 7) dX12_commandHere_6 rfl (z_in_of rfl) ?_
            refine zr_iadd (q := 8) dX12_commandHere_7 rfl (fun hA hB => by unfold z_in at hA hB ⊢; omega) ?_
            refine zp_is1 (q := 9) dX12_commandHere_8 rfl rfl rfl ?_
            refine zp_al0 (q := 10) dX12_commandHere_9 rfl ?_
            refine zr_bipush (q := 12) dX12_commandHere_10 rfl (z_in_of rfl) (by decide +kernel) ?_
            refine zf_callV1 (k517) (s_X12_skips H hp (by omega) (by omega) (by decide) (show zCh9 L p = 98 by omega)) mtX12_skips wiX12_skips weX12_skips wlX12_187 (q := 15) dX12_commandHere_12 rfl rfl rfl rfl rfl rfl rfl (fun r S9 M9 h8 hP => ?_) (fun k S9 M9 hP => (z_no hP.1 rfl).elim)
            obtain ⟨rfl, rfl, t1⟩ := hP
            have H1 := t1.h H
            have p1 : M9 517 21 = p + 1 := t1.2.2.1.trans (by omega)
            have k1 : M9 517 23 = K := (t1.2.1 23 (by decide)).trans hk
            refine zr_if_eq (q := 62) (q2 := 18) dX12_commandHere_15 (by decide) rfl (fun h15 => ?_) (fun h15 => ?_)
            · exact absurd h15 (by decide)
            · refine zp_al0 (q := 19) dX12_commandHere_18 rfl ?_
              refine zr_iconst (q := 20) dX12_commandHere_19 rfl (z_in_of rfl) ?_
              refine zr_ldcS (k := 22) (ci := _) (q := 22) (by decide) rfl rfl dX12_commandHere_20 rfl ?_
              refine zf_callV2 (k517) (s_X12_isWord H1 (p := p + 1) p1 (by omega) (by omega) k1 (by omega) (by omega) zst_22 (w := [97, 108, 108, 111, 116]) hm) mtX12_isWord wiX12_isWord weX12_isWord wlX12_195 (q := 25) dX12_commandHere_22 rfl rfl rfl rfl rfl rfl rfl (fun r S9 M9 h8 hP => ?_) (fun k S9 M9 hP => (z_no hP.1 rfl).elim)
              obtain ⟨rfl, rfl, t2, v2⟩ := hP
              have H2 := t2.h H1
              have p2 : M9 517 21 = zq1 (zCh9 L) p := t2.2.2.1.trans e1
              have k2 : M9 517 23 = K := (t2.2.1 23 (by decide)).trans k1
              refine zr_if_eq (q := 60) (q2 := 28) dX12_commandHere_25 (by decide) rfl (fun h25 => ?_) (fun h25 => ?_)
              · exact absurd h25 (by decide)
              · refine zp_al0 (q := 29) dX12_commandHere_28 rfl ?_
                refine zp_il1 (q := 30) dX12_commandHere_29 rfl ?_
                refine zr_iconst (q := 31) dX12_commandHere_30 rfl (z_in_of rfl) ?_
                refine zf_callV2 (k517) (s_X12_figures H2 (p := zq1 (zCh9 L) p) p2 (by omega) (by omega) (by omega) (by omega) (by decide) c1) mtX12_figures wiX12_figures weX12_figures wlX12_199 (q := 34) dX12_commandHere_31 rfl rfl rfl rfl rfl rfl rfl (fun r S9 M9 h8 hP => ?_) (fun k S9 M9 hP => (z_no hP.1 rfl).elim)
                obtain ⟨rfl, rfl, t3, v3⟩ := hP
                have H3 := t3.h H2
                have p3 : M9 517 21 = zq2 (zCh9 L) p := t3.2.2.1.trans f1
                have k3 : M9 517 23 = K := (t3.2.1 23 (by decide)).trans k2
                refine zr_if_eq (q := 60) (q2 := 37) dX12_commandHere_34 (by decide) rfl (fun h34 => ?_) (fun h34 => ?_)
                · exact absurd h34 (by decide)
                · refine zp_al0 (q := 38) dX12_commandHere_37 rfl ?_
                  refine zp_il1 (q := 39) dX12_commandHere_38 rfl ?_
                  refine zr_iconst (q := 40) dX12_commandHere_39 rfl (z_in_of rfl) ?_
                  refine zr_iadd (q := 41) dX12_commandHere_40 rfl (fun hA hB => by unfold z_in at hA hB ⊢; omega) ?_
                  refine zr_iconst (q := 42) dX12_commandHere_41 rfl (z_in_of rfl) ?_
                  refine zf_callV2 (k517) (s_X12_figures H3 (p := zq2 (zCh9 L) p) p3 (by omega) (by omega) (by omega) (by omega) (by decide) c2) mtX12_figures wiX12_figures weX12_figures wlX12_199 (q := 45) dX12_commandHere_42 rfl rfl rfl rfl rfl rfl rfl (fun r S9 M9 h8 hP => ?_) (fun k S9 M9 hP => (z_no hP.1 rfl).elim)
                  obtain ⟨rfl, rfl, t4, v4⟩ := hP
                  have H4 := t4.h H3
                  have p4 : M9 517 21 = zq3 (zCh9 L) p := t4.2.2.1.trans f2
                  have k4 : M9 517 23 = K := (t4.2.1 23 (by decide)).trans k3
                  refine zr_if_eq (q := 60) (q2 := 48) dX12_commandHere_45 (by decide) rfl (fun h45 => ?_) (fun h45 => ?_)
                  · exact absurd h45 (by decide)
                  · refine zp_al0 (q := 49) dX12_commandHere_48 rfl ?_
                    refine zp_il1 (q := 50) dX12_commandHere_49 rfl ?_
                    refine zf_callV1 (k517) (s_X12_windsHere H4 (p := zq3 (zCh9 L) p) p4 (by omega) (by omega) (by omega) (by omega) (by omega) c4) mtX12_windsHere wiX12_windsHere weX12_windsHere wlX12_208 (q := 53) dX12_commandHere_50 rfl rfl rfl rfl rfl rfl rfl (fun r S9 M9 h8 hP => ?_) (fun k S9 M9 hP => (z_no hP.1 rfl).elim)
                    obtain ⟨rfl, rfl, t5, v5, u5⟩ := hP
                    have p5 : M9 517 21 = zq4 (zCh9 L) p := t5.2.2.1
                    refine zr_if_eq (q := 60) (q2 := 56) dX12_commandHere_53 (by decide) rfl (fun h53 => ?_) (fun h53 => ?_)
                    · exact absurd h53 (by decide)
                    · refine zr_iconst (q := 57) dX12_commandHere_56 rfl (z_in_of rfl) ?_
                      refine zr_goto (q := 61) dX12_commandHere_57 (by decide) ?_
                      refine zr_ireturn dX12_commandHere_61 rfl (z_fit_z (by decide)) ?_
                      refine hy ⟨by omega, c1x, c2x, fun _ => c4⟩ _ (t1.t (t2.t (t3.t (t4.t t5 (c := 5 * K) (d := 5 * K + 5) (fun j hj => by omega)) (c := 5 * K) (d := 5 * K + 5) (fun j hj => by omega)) (c := 5 * K) (d := 5 * K + 5) (fun j hj => by omega)) (c := 5 * K) (d := 5 * K + 5) (fun j hj => by omega)) (p5.trans (zCe_4 (by omega) c1x c2x hw c4).symm) ⟨?_, ?_, ?_, ?_⟩
                      · rw [hw, t5.2.2.2 (5 * K) (by omega), t4.2.2.2 (5 * K) (by omega), t3.2.2.2 (5 * K) (by omega)]
                        exact v2
                      · intro _
                        rw [t5.2.2.2 (5 * K + 1) (by omega), t4.2.2.2 (5 * K + 1) (by omega)]
                        rw [d1]
                        exact v3
                      · intro _
                        rw [show 5 * K + 2 = 5 * K + 1 + 1 by omega]
                        rw [t5.2.2.2 (5 * K + 1 + 1) (by omega)]
                        rw [d2]
                        exact v4
                      · exact fun _ => ⟨by rw [show 5 * K + 3 = 5 * K + 1 + 2 by omega]; exact v5, by rw [show 5 * K + 4 = 5 * K + 1 + 3 by omega]; exact u5⟩
        · have c2x : ¬ zPo (zCh9 L) (zq2 (zCh9 L) p) (zD2 (zWw (zCh9 L) p)) := by rw [d2]; exact c2
          have hw : zWw (zCh9 L) p = 2 := by
            unfold zWw
            rw [if_pos (show zCh9 L p = 98 by omega)]
            rw [if_pos (show zMt9 (zCh9 L) [97, 108, 108, 111, 116] (p + 1) = 5 by omega)]
          have ha : zWa (zCh9 L) p = 1 + zMt9 (zCh9 L) [97, 108, 108, 111, 116] (p + 1) := by
            unfold zWa
            rw [if_pos (show zCh9 L p = 98 by omega)]
          have e1 : p + 1 + zMt9 (zCh9 L) [97, 108, 108, 111, 116] (p + 1) = zq1 (zCh9 L) p := by
            unfold zq1
            omega
          have l0 := zCh9_lt (L := L) (p := p) (by omega) H.2.2
          refine zr_iconst (q := 1) dX12_commandHere_0 rfl (z_in_of rfl) ?_
          refine zp_al0 (q := 2) dX12_commandHere_1 rfl ?_
          refine zf_getG (v := K) 23 (k517) (hk) rfl fdX12_176 (q := 5) dX12_commandHere_2 rfl rfl ?_
          refine zr_imul (q := 6) dX12_commandHere_5 rfl (fun hA hB => by unfold z_in at hA hB ⊢; omega) ?_
          refine zr_iconst (q := 7) dX12_commandHere_6 rfl (z_in_of rfl) ?_
          refine zr_iadd (q := 8) dX12_commandHere_7 rfl (fun hA hB => by unfold z_in at hA hB ⊢; omega) ?_
          refine zp_is1 (q := 9) dX12_commandHere_8 rfl rfl rfl ?_
          refine zp_al0 (q := 10) dX12_commandHere_9 rfl ?_
          refine zr_bipush (q := 12) dX12_commandHere_10 rfl (z_in_of rfl) (by decide +kernel) ?_
          refine zf_callV1 (k517) (s_X12_skips H hp (by omega) (by omega) (by decide) (show zCh9 L p = 98 by omega)) mtX12_skips wiX12_skips weX12_skips wlX12_187 (q := 15) dX12_commandHere_12 rfl rfl rfl rfl rfl rfl rfl (fun r S9 M9 h8 hP => ?_) (fun k S9 M9 hP => (z_no hP.1 rfl).elim)
          obtain ⟨rfl, rfl, t1⟩ := hP
          have H1 := t1.h H
          have p1 : M9 517 21 = p + 1 := t1.2.2.1.trans (by omega)
          have k1 : M9 517 23 = K := (t1.2.1 23 (by decide)).trans hk
          refine zr_if_eq (q := 62) (q2 := 18) dX12_commandHere_15 (by decide) rfl (fun h15 => ?_) (fun h15 => ?_)
          · exact absurd h15 (by decide)
          · refine zp_al0 (q := 19) dX12_commandHere_18 rfl ?_
            refine zr_iconst (q := 20) dX12_commandHere_19 rfl (z_in_of rfl) ?_
            refine zr_ldcS (k := 22) (ci := _) (q := 22) (by decide) rfl rfl dX12_commandHere_20 rfl ?_
            refine zf_callV2 (k517) (s_X12_isWord H1 (p := p + 1) p1 (by omega) (by omega) k1 (by omega) (by omega) zst_22 (w := [97, 108, 108, 111, 116]) hm) mtX12_isWord wiX12_isWord weX12_isWord wlX12_195 (q := 25) dX12_commandHere_22 rfl rfl rfl rfl rfl rfl rfl (fun r S9 M9 h8 hP => ?_) (fun k S9 M9 hP => (z_no hP.1 rfl).elim)
            obtain ⟨rfl, rfl, t2, v2⟩ := hP
            have H2 := t2.h H1
            have p2 : M9 517 21 = zq1 (zCh9 L) p := t2.2.2.1.trans e1
            have k2 : M9 517 23 = K := (t2.2.1 23 (by decide)).trans k1
            refine zr_if_eq (q := 60) (q2 := 28) dX12_commandHere_25 (by decide) rfl (fun h25 => ?_) (fun h25 => ?_)
            · exact absurd h25 (by decide)
            · refine zp_al0 (q := 29) dX12_commandHere_28 rfl ?_
              refine zp_il1 (q := 30) dX12_commandHere_29 rfl ?_
              refine zr_iconst (q := 31) dX12_commandHere_30 rfl (z_in_of rfl) ?_
              refine zf_callV2 (k517) (s_X12_figures H2 (p := zq1 (zCh9 L) p) p2 (by omega) (by omega) (by omega) (by omega) (by decide) c1) mtX12_figures wiX12_figures weX12_figures wlX12_199 (q := 34) dX12_commandHere_31 rfl rfl rfl rfl rfl rfl rfl (fun r S9 M9 h8 hP => ?_) (fun k S9 M9 hP => (z_no hP.1 rfl).elim)
              obtain ⟨rfl, rfl, t3, v3⟩ := hP
              have H3 := t3.h H2
              have p3 : M9 517 21 = zq2 (zCh9 L) p := t3.2.2.1.trans f1
              have k3 : M9 517 23 = K := (t3.2.1 23 (by decide)).trans k2
              refine zr_if_eq (q := 60) (q2 := 37) dX12_commandHere_34 (by decide) rfl (fun h34 => ?_) (fun h34 => ?_)
              · exact absurd h34 (by decide)
              · refine zp_al0 (q := 38) dX12_commandHere_37 rfl ?_
                refine zp_il1 (q := 39) dX12_commandHere_38 rfl ?_
                refine zr_iconst (q := 40) dX12_commandHere_39 rfl (z_in_of rfl) ?_
                refine zr_iadd (q := 41) dX12_commandHere_40 rfl (fun hA hB => by unfold z_in at hA hB ⊢; omega) ?_
                refine zr_iconst (q := 42) dX12_commandHere_41 rfl (z_in_of rfl) ?_
                refine zf_callV2 (k517) (s_X12_figures_x H3 (p := zq2 (zCh9 L) p) p3 (by omega) (by omega) (by omega) (by omega) (by decide) c2) mtX12_figures wiX12_figures weX12_figures wlX12_199 (q := 45) dX12_commandHere_42 rfl rfl rfl rfl rfl rfl rfl (fun r S9 M9 h8 hP => ?_) (fun k S9 M9 hP => (z_no hP.1 rfl).elim)
                obtain ⟨rfl, rfl, t4⟩ := hP
                have p4 : M9 517 21 = zq3 (zCh9 L) p := t4.2.2.1.trans f2
                refine zr_if_eq (q := 60) (q2 := 48) dX12_commandHere_45 (by decide) rfl (fun h45 => ?_) (fun h45 => ?_)
                · refine zr_iconst (q := 61) dX12_commandHere_60 rfl (z_in_of rfl) ?_
                  refine zr_ireturn dX12_commandHere_61 rfl (z_fit_z (by decide)) ?_
                  exact hn (fun ho => c2x ho.2.2.1) _ (t1.t (t2.t (t3.t t4 (c := 5 * K) (d := 5 * K + 5) (fun j hj => by omega)) (c := 5 * K) (d := 5 * K + 5) (fun j hj => by omega)) (c := 5 * K) (d := 5 * K + 5) (fun j hj => by omega)) (p4.trans (zCe_2 (by omega) c1x c2x).symm)
                · exact absurd rfl h45
      · have c1x : ¬ zPo (zCh9 L) (zq1 (zCh9 L) p) (zD1 (zWw (zCh9 L) p)) := by rw [d1]; exact c1
        have hw : zWw (zCh9 L) p = 2 := by
          unfold zWw
          rw [if_pos (show zCh9 L p = 98 by omega)]
          rw [if_pos (show zMt9 (zCh9 L) [97, 108, 108, 111, 116] (p + 1) = 5 by omega)]
        have ha : zWa (zCh9 L) p = 1 + zMt9 (zCh9 L) [97, 108, 108, 111, 116] (p + 1) := by
          unfold zWa
          rw [if_pos (show zCh9 L p = 98 by omega)]
        have e1 : p + 1 + zMt9 (zCh9 L) [97, 108, 108, 111, 116] (p + 1) = zq1 (zCh9 L) p := by
          unfold zq1
          omega
        have l0 := zCh9_lt (L := L) (p := p) (by omega) H.2.2
        refine zr_iconst (q := 1) dX12_commandHere_0 rfl (z_in_of rfl) ?_
        refine zp_al0 (q := 2) dX12_commandHere_1 rfl ?_
        refine zf_getG (v := K) 23 (k517) (hk) rfl fdX12_176 (q := 5) dX12_commandHere_2 rfl rfl ?_
        refine zr_imul (q := 6) dX12_commandHere_5 rfl (fun hA hB => by unfold z_in at hA hB ⊢; omega) ?_
        refine zr_iconst (q := 7) dX12_commandHere_6 rfl (z_in_of rfl) ?_
        refine zr_iadd (q := 8) dX12_commandHere_7 rfl (fun hA hB => by unfold z_in at hA hB ⊢; omega) ?_
        refine zp_is1 (q := 9) dX12_commandHere_8 rfl rfl rfl ?_
        refine zp_al0 (q := 10) dX12_commandHere_9 rfl ?_
        refine zr_bipush (q := 12) dX12_commandHere_10 rfl (z_in_of rfl) (by decide +kernel) ?_
        refine zf_callV1 (k517) (s_X12_skips H hp (by omega) (by omega) (by decide) (show zCh9 L p = 98 by omega)) mtX12_skips wiX12_skips weX12_skips wlX12_187 (q := 15) dX12_commandHere_12 rfl rfl rfl rfl rfl rfl rfl (fun r S9 M9 h8 hP => ?_) (fun k S9 M9 hP => (z_no hP.1 rfl).elim)
        obtain ⟨rfl, rfl, t1⟩ := hP
        have H1 := t1.h H
        have p1 : M9 517 21 = p + 1 := t1.2.2.1.trans (by omega)
        have k1 : M9 517 23 = K := (t1.2.1 23 (by decide)).trans hk
        refine zr_if_eq (q := 62) (q2 := 18) dX12_commandHere_15 (by decide) rfl (fun h15 => ?_) (fun h15 => ?_)
        · exact absurd h15 (by decide)
        · refine zp_al0 (q := 19) dX12_commandHere_18 rfl ?_
          refine zr_iconst (q := 20) dX12_commandHere_19 rfl (z_in_of rfl) ?_
          refine zr_ldcS (k := 22) (ci := _) (q := 22) (by decide) rfl rfl dX12_commandHere_20 rfl ?_
          refine zf_callV2 (k517) (s_X12_isWord H1 (p := p + 1) p1 (by omega) (by omega) k1 (by omega) (by omega) zst_22 (w := [97, 108, 108, 111, 116]) hm) mtX12_isWord wiX12_isWord weX12_isWord wlX12_195 (q := 25) dX12_commandHere_22 rfl rfl rfl rfl rfl rfl rfl (fun r S9 M9 h8 hP => ?_) (fun k S9 M9 hP => (z_no hP.1 rfl).elim)
          obtain ⟨rfl, rfl, t2, v2⟩ := hP
          have H2 := t2.h H1
          have p2 : M9 517 21 = zq1 (zCh9 L) p := t2.2.2.1.trans e1
          have k2 : M9 517 23 = K := (t2.2.1 23 (by decide)).trans k1
          refine zr_if_eq (q := 60) (q2 := 28) dX12_commandHere_25 (by decide) rfl (fun h25 => ?_) (fun h25 => ?_)
          · exact absurd h25 (by decide)
          · refine zp_al0 (q := 29) dX12_commandHere_28 rfl ?_
            refine zp_il1 (q := 30) dX12_commandHere_29 rfl ?_
            refine zr_iconst (q := 31) dX12_commandHere_30 rfl (z_in_of rfl) ?_
            refine zf_callV2 (k517) (s_X12_figures_x H2 (p := zq1 (zCh9 L) p) p2 (by omega) (by omega) (by omega) (by omega) (by decide) c1) mtX12_figures wiX12_figures weX12_figures wlX12_199 (q := 34) dX12_commandHere_31 rfl rfl rfl rfl rfl rfl rfl (fun r S9 M9 h8 hP => ?_) (fun k S9 M9 hP => (z_no hP.1 rfl).elim)
            obtain ⟨rfl, rfl, t3⟩ := hP
            have p3 : M9 517 21 = zq2 (zCh9 L) p := t3.2.2.1.trans f1
            refine zr_if_eq (q := 60) (q2 := 37) dX12_commandHere_34 (by decide) rfl (fun h34 => ?_) (fun h34 => ?_)
            · refine zr_iconst (q := 61) dX12_commandHere_60 rfl (z_in_of rfl) ?_
              refine zr_ireturn dX12_commandHere_61 rfl (z_fit_z (by decide)) ?_
              exact hn (fun ho => c1x ho.2.1) _ (t1.t (t2.t t3 (c := 5 * K) (d := 5 * K + 5) (fun j hj => by omega)) (c := 5 * K) (d := 5 * K + 5) (fun j hj => by omega)) (p3.trans (zCe_1 (by omega) c1x).symm)
            · exact absurd rfl h34
    · have hw : zWw (zCh9 L) p = -1 := by
        unfold zWw
        rw [if_pos (show zCh9 L p = 98 by omega)]
        rw [if_neg (show ¬ zMt9 (zCh9 L) [97, 108, 108, 111, 116] (p + 1) = 5 by omega)]
      have ha : zWa (zCh9 L) p = 1 + zMt9 (zCh9 L) [97, 108, 108, 111, 116] (p + 1) := by
        unfold zWa
        rw [if_pos (show zCh9 L p = 98 by omega)]
      have e1 : p + 1 + zMt9 (zCh9 L) [97, 108, 108, 111, 116] (p + 1) = zq1 (zCh9 L) p := by
        unfold zq1
        omega
      have l0 := zCh9_lt (L := L) (p := p) (by omega) H.2.2
      refine zr_iconst (q := 1) dX12_commandHere_0 rfl (z_in_of rfl) ?_
      refine zp_al0 (q := 2) dX12_commandHere_1 rfl ?_
      refine zf_getG (v := K) 23 (k517) (hk) rfl fdX12_176 (q := 5) dX12_commandHere_2 rfl rfl ?_
      refine zr_imul (q := 6) dX12_commandHere_5 rfl (fun hA hB => by unfold z_in at hA hB ⊢; omega) ?_
      refine zr_iconst (q := 7) dX12_commandHere_6 rfl (z_in_of rfl) ?_
      refine zr_iadd (q := 8) dX12_commandHere_7 rfl (fun hA hB => by unfold z_in at hA hB ⊢; omega) ?_
      refine zp_is1 (q := 9) dX12_commandHere_8 rfl rfl rfl ?_
      refine zp_al0 (q := 10) dX12_commandHere_9 rfl ?_
      refine zr_bipush (q := 12) dX12_commandHere_10 rfl (z_in_of rfl) (by decide +kernel) ?_
      refine zf_callV1 (k517) (s_X12_skips H hp (by omega) (by omega) (by decide) (show zCh9 L p = 98 by omega)) mtX12_skips wiX12_skips weX12_skips wlX12_187 (q := 15) dX12_commandHere_12 rfl rfl rfl rfl rfl rfl rfl (fun r S9 M9 h8 hP => ?_) (fun k S9 M9 hP => (z_no hP.1 rfl).elim)
      obtain ⟨rfl, rfl, t1⟩ := hP
      have H1 := t1.h H
      have p1 : M9 517 21 = p + 1 := t1.2.2.1.trans (by omega)
      have k1 : M9 517 23 = K := (t1.2.1 23 (by decide)).trans hk
      refine zr_if_eq (q := 62) (q2 := 18) dX12_commandHere_15 (by decide) rfl (fun h15 => ?_) (fun h15 => ?_)
      · exact absurd h15 (by decide)
      · refine zp_al0 (q := 19) dX12_commandHere_18 rfl ?_
        refine zr_iconst (q := 20) dX12_commandHere_19 rfl (z_in_of rfl) ?_
        refine zr_ldcS (k := 22) (ci := _) (q := 22) (by decide) rfl rfl dX12_commandHere_20 rfl ?_
        refine zf_callV2 (k517) (s_X12_isWord_x H1 (p := p + 1) p1 (by omega) (by omega) k1 (by omega) (by omega) zst_22 (w := [97, 108, 108, 111, 116]) hm) mtX12_isWord wiX12_isWord weX12_isWord wlX12_195 (q := 25) dX12_commandHere_22 rfl rfl rfl rfl rfl rfl rfl (fun r S9 M9 h8 hP => ?_) (fun k S9 M9 hP => (z_no hP.1 rfl).elim)
        obtain ⟨rfl, rfl, t2⟩ := hP
        have p2 : M9 517 21 = zq1 (zCh9 L) p := t2.2.2.1.trans e1
        refine zr_if_eq (q := 60) (q2 := 28) dX12_commandHere_25 (by decide) rfl (fun h25 => ?_) (fun h25 => ?_)
        · refine zr_iconst (q := 61) dX12_commandHere_60 rfl (z_in_of rfl) ?_
          refine zr_ireturn dX12_commandHere_61 rfl (z_fit_z (by decide)) ?_
          exact hn (fun ho => by have := ho.1; omega) _ (t1.t t2 (c := 5 * K) (d := 5 * K + 5) (fun j hj => by omega)) (p2.trans (zCe_w (by omega)).symm)
        · exact absurd rfl h25
  by_cases e115 : zCh9 L p = 115
  · have hmt := zMt9_range (zCh9 L) [112, 105, 110] (p + 1)
    rw [show (([112, 105, 110] : List Int).length : Int) = 3 from rfl] at hmt
    by_cases hm : zMt9 (zCh9 L) [112, 105, 110] (p + 1) = 3
    · have hww : zWw (zCh9 L) p = 6 := by
        unfold zWw
        rw [if_neg (show ¬ zCh9 L p = 98 by omega), if_pos (show zCh9 L p = 115 by omega)]
        rw [if_pos hm]
      have d1 : zD1 (zWw (zCh9 L) p) = 0 := by rw [hww]; rfl
      have d2 : zD2 (zWw (zCh9 L) p) = 0 := by rw [hww]; rfl
      have g10 := g9 (by omega)
      have f1 : zq1 (zCh9 L) p = zq2 (zCh9 L) p := (if_pos d1).symm
      have f2 : zq2 (zCh9 L) p = zq3 (zCh9 L) p := (if_pos d2).symm
      have c1x : zPo (zCh9 L) (zq1 (zCh9 L) p) (zD1 (zWw (zCh9 L) p)) := Or.inl d1
      have c2x : zPo (zCh9 L) (zq2 (zCh9 L) p) (zD2 (zWw (zCh9 L) p)) := Or.inl d2
      have hw : zWw (zCh9 L) p = 6 := by
        unfold zWw
        rw [if_neg (show ¬ zCh9 L p = 98 by omega), if_pos (show zCh9 L p = 115 by omega)]
        rw [if_pos (show zMt9 (zCh9 L) [112, 105, 110] (p + 1) = 3 by omega)]
      have ha : zWa (zCh9 L) p = 1 + zMt9 (zCh9 L) [112, 105, 110] (p + 1) := by
        unfold zWa
        rw [if_neg (show ¬ zCh9 L p = 98 by omega), if_pos (show zCh9 L p = 115 by omega)]
      have e1 : p + 1 + zMt9 (zCh9 L) [112, 105, 110] (p + 1) = zq1 (zCh9 L) p := by
        unfold zq1
        omega
      have l0 := zCh9_lt (L := L) (p := p) (by omega) H.2.2
      refine zr_iconst (q := 1) dX12_commandHere_0 rfl (z_in_of rfl) ?_
      refine zp_al0 (q := 2) dX12_commandHere_1 rfl ?_
      refine zf_getG (v := K) 23 (k517) (hk) rfl fdX12_176 (q := 5) dX12_commandHere_2 rfl rfl ?_
      refine zr_imul (q := 6) dX12_commandHere_5 rfl (fun hA hB => by unfold z_in at hA hB ⊢; omega) ?_
      refine zr_iconst (q := 7) dX12_commandHere_6 rfl (z_in_of rfl) ?_
      refine zr_iadd (q := 8) dX12_commandHere_7 rfl (fun hA hB => by unfold z_in at hA hB ⊢; omega) ?_
      refine zp_is1 (q := 9) dX12_commandHere_8 rfl rfl rfl ?_
      refine zp_al0 (q := 10) dX12_commandHere_9 rfl ?_
      refine zr_bipush (q := 12) dX12_commandHere_10 rfl (z_in_of rfl) (by decide +kernel) ?_
      refine zf_callV1 (k517) (s_X12_skips_x H hp (by omega) (show zCh9 L p ≠ 98 by omega)) mtX12_skips wiX12_skips weX12_skips wlX12_187 (q := 15) dX12_commandHere_12 rfl rfl rfl rfl rfl rfl rfl (fun r S9 M9 h8 hP => ?_) (fun k S9 M9 hP => (z_no hP.1 rfl).elim)
      obtain ⟨rfl, rfl, h9⟩ := hP
      subst M9
      refine zr_if_eq (q := 62) (q2 := 18) dX12_commandHere_15 (by decide) rfl (fun h15 => ?_) (fun h15 => ?_)
      · refine zp_al0 (q := 63) dX12_commandHere_62 rfl ?_
        refine zr_bipush (q := 65) dX12_commandHere_63 rfl (z_in_of rfl) (by decide +kernel) ?_
        refine zf_callV1 (k517) (s_X12_skips H hp (by omega) (by omega) (by decide) (show zCh9 L p = 115 by omega)) mtX12_skips wiX12_skips weX12_skips wlX12_187 (q := 68) dX12_commandHere_65 rfl rfl rfl rfl rfl rfl rfl (fun r S9 M9 h8 hP => ?_) (fun k S9 M9 hP => (z_no hP.1 rfl).elim)
        obtain ⟨rfl, rfl, t1⟩ := hP
        have H1 := t1.h H
        have p1 : M9 517 21 = p + 1 := t1.2.2.1.trans (by omega)
        have k1 : M9 517 23 = K := (t1.2.1 23 (by decide)).trans hk
        refine zr_if_eq (q := 80) (q2 := 71) dX12_commandHere_68 (by decide) rfl (fun h68 => ?_) (fun h68 => ?_)
        · exact absurd h68 (by decide)
        · refine zp_al0 (q := 72) dX12_commandHere_71 rfl ?_
          refine zr_bipush (q := 74) dX12_commandHere_72 rfl (z_in_of rfl) (by decide +kernel) ?_
          refine zr_ldcS (k := 23) (ci := _) (q := 76) (by decide) rfl rfl dX12_commandHere_74 rfl ?_
          refine zf_callV2 (k517) (s_X12_isWord H1 (p := p + 1) p1 (by omega) (by omega) k1 (by omega) (by omega) zst_23 (w := [112, 105, 110]) hm) mtX12_isWord wiX12_isWord weX12_isWord wlX12_195 (q := 79) dX12_commandHere_76 rfl rfl rfl rfl rfl rfl rfl (fun r S9 M9 h8 hP => ?_) (fun k S9 M9 hP => (z_no hP.1 rfl).elim)
          obtain ⟨rfl, rfl, t2, v2⟩ := hP
          have H2 := t2.h H1
          have p2 : M9 517 21 = zq1 (zCh9 L) p := t2.2.2.1.trans e1
          have k2 : M9 517 23 = K := (t2.2.1 23 (by decide)).trans k1
          refine zr_ireturn dX12_commandHere_79 rfl (z_fit_z (by decide)) ?_
          refine hy ⟨by omega, c1x, c2x, fun h => absurd (hw.symm.trans h) (by decide)⟩ _ (t1.t t2 (c := 5 * K) (d := 5 * K + 5) (fun j hj => by omega)) (((p2.trans f1).trans f2).trans (zCe_3 (by omega) c1x c2x (by omega)).symm) ⟨?_, ?_, ?_, ?_⟩
          · rw [hw]
            exact v2
          · exact fun h => absurd d1 h
          · exact fun h => absurd d2 h
          · exact fun h => absurd (hw.symm.trans h) (by decide)
      · exact absurd rfl h15
    · have hw : zWw (zCh9 L) p = -1 := by
        unfold zWw
        rw [if_neg (show ¬ zCh9 L p = 98 by omega), if_pos (show zCh9 L p = 115 by omega)]
        rw [if_neg (show ¬ zMt9 (zCh9 L) [112, 105, 110] (p + 1) = 3 by omega)]
      have ha : zWa (zCh9 L) p = 1 + zMt9 (zCh9 L) [112, 105, 110] (p + 1) := by
        unfold zWa
        rw [if_neg (show ¬ zCh9 L p = 98 by omega), if_pos (show zCh9 L p = 115 by omega)]
      have e1 : p + 1 + zMt9 (zCh9 L) [112, 105, 110] (p + 1) = zq1 (zCh9 L) p := by
        unfold zq1
        omega
      have l0 := zCh9_lt (L := L) (p := p) (by omega) H.2.2
      refine zr_iconst (q := 1) dX12_commandHere_0 rfl (z_in_of rfl) ?_
      refine zp_al0 (q := 2) dX12_commandHere_1 rfl ?_
      refine zf_getG (v := K) 23 (k517) (hk) rfl fdX12_176 (q := 5) dX12_commandHere_2 rfl rfl ?_
      refine zr_imul (q := 6) dX12_commandHere_5 rfl (fun hA hB => by unfold z_in at hA hB ⊢; omega) ?_
      refine zr_iconst (q := 7) dX12_commandHere_6 rfl (z_in_of rfl) ?_
      refine zr_iadd (q := 8) dX12_commandHere_7 rfl (fun hA hB => by unfold z_in at hA hB ⊢; omega) ?_
      refine zp_is1 (q := 9) dX12_commandHere_8 rfl rfl rfl ?_
      refine zp_al0 (q := 10) dX12_commandHere_9 rfl ?_
      refine zr_bipush (q := 12) dX12_commandHere_10 rfl (z_in_of rfl) (by decide +kernel) ?_
      refine zf_callV1 (k517) (s_X12_skips_x H hp (by omega) (show zCh9 L p ≠ 98 by omega)) mtX12_skips wiX12_skips weX12_skips wlX12_187 (q := 15) dX12_commandHere_12 rfl rfl rfl rfl rfl rfl rfl (fun r S9 M9 h8 hP => ?_) (fun k S9 M9 hP => (z_no hP.1 rfl).elim)
      obtain ⟨rfl, rfl, h9⟩ := hP
      subst M9
      refine zr_if_eq (q := 62) (q2 := 18) dX12_commandHere_15 (by decide) rfl (fun h15 => ?_) (fun h15 => ?_)
      · refine zp_al0 (q := 63) dX12_commandHere_62 rfl ?_
        refine zr_bipush (q := 65) dX12_commandHere_63 rfl (z_in_of rfl) (by decide +kernel) ?_
        refine zf_callV1 (k517) (s_X12_skips H hp (by omega) (by omega) (by decide) (show zCh9 L p = 115 by omega)) mtX12_skips wiX12_skips weX12_skips wlX12_187 (q := 68) dX12_commandHere_65 rfl rfl rfl rfl rfl rfl rfl (fun r S9 M9 h8 hP => ?_) (fun k S9 M9 hP => (z_no hP.1 rfl).elim)
        obtain ⟨rfl, rfl, t1⟩ := hP
        have H1 := t1.h H
        have p1 : M9 517 21 = p + 1 := t1.2.2.1.trans (by omega)
        have k1 : M9 517 23 = K := (t1.2.1 23 (by decide)).trans hk
        refine zr_if_eq (q := 80) (q2 := 71) dX12_commandHere_68 (by decide) rfl (fun h68 => ?_) (fun h68 => ?_)
        · exact absurd h68 (by decide)
        · refine zp_al0 (q := 72) dX12_commandHere_71 rfl ?_
          refine zr_bipush (q := 74) dX12_commandHere_72 rfl (z_in_of rfl) (by decide +kernel) ?_
          refine zr_ldcS (k := 23) (ci := _) (q := 76) (by decide) rfl rfl dX12_commandHere_74 rfl ?_
          refine zf_callV2 (k517) (s_X12_isWord_x H1 (p := p + 1) p1 (by omega) (by omega) k1 (by omega) (by omega) zst_23 (w := [112, 105, 110]) hm) mtX12_isWord wiX12_isWord weX12_isWord wlX12_195 (q := 79) dX12_commandHere_76 rfl rfl rfl rfl rfl rfl rfl (fun r S9 M9 h8 hP => ?_) (fun k S9 M9 hP => (z_no hP.1 rfl).elim)
          obtain ⟨rfl, rfl, t2⟩ := hP
          have p2 : M9 517 21 = zq1 (zCh9 L) p := t2.2.2.1.trans e1
          refine zr_ireturn dX12_commandHere_79 rfl (z_fit_z (by decide)) ?_
          exact hn (fun ho => by have := ho.1; omega) _ (t1.t t2 (c := 5 * K) (d := 5 * K + 5) (fun j hj => by omega)) (p2.trans (zCe_w (by omega)).symm)
      · exact absurd rfl h15
  by_cases e99 : zCh9 L p = 99
  · have hmt := zMt9_range (zCh9 L) [101, 114, 116, 105, 102, 121] (p + 1)
    rw [show (([101, 114, 116, 105, 102, 121] : List Int).length : Int) = 6 from rfl] at hmt
    by_cases hm : zMt9 (zCh9 L) [101, 114, 116, 105, 102, 121] (p + 1) = 6
    · have hww : zWw (zCh9 L) p = 7 := by
        unfold zWw
        rw [if_neg (show ¬ zCh9 L p = 98 by omega), if_neg (show ¬ zCh9 L p = 115 by omega), if_pos (show zCh9 L p = 99 by omega)]
        rw [if_pos hm]
      have d1 : zD1 (zWw (zCh9 L) p) = 0 := by rw [hww]; rfl
      have d2 : zD2 (zWw (zCh9 L) p) = 0 := by rw [hww]; rfl
      have g10 := g9 (by omega)
      have f1 : zq1 (zCh9 L) p = zq2 (zCh9 L) p := (if_pos d1).symm
      have f2 : zq2 (zCh9 L) p = zq3 (zCh9 L) p := (if_pos d2).symm
      have c1x : zPo (zCh9 L) (zq1 (zCh9 L) p) (zD1 (zWw (zCh9 L) p)) := Or.inl d1
      have c2x : zPo (zCh9 L) (zq2 (zCh9 L) p) (zD2 (zWw (zCh9 L) p)) := Or.inl d2
      have hw : zWw (zCh9 L) p = 7 := by
        unfold zWw
        rw [if_neg (show ¬ zCh9 L p = 98 by omega), if_neg (show ¬ zCh9 L p = 115 by omega), if_pos (show zCh9 L p = 99 by omega)]
        rw [if_pos (show zMt9 (zCh9 L) [101, 114, 116, 105, 102, 121] (p + 1) = 6 by omega)]
      have ha : zWa (zCh9 L) p = 1 + zMt9 (zCh9 L) [101, 114, 116, 105, 102, 121] (p + 1) := by
        unfold zWa
        rw [if_neg (show ¬ zCh9 L p = 98 by omega), if_neg (show ¬ zCh9 L p = 115 by omega), if_pos (show zCh9 L p = 99 by omega)]
      have e1 : p + 1 + zMt9 (zCh9 L) [101, 114, 116, 105, 102, 121] (p + 1) = zq1 (zCh9 L) p := by
        unfold zq1
        omega
      have l0 := zCh9_lt (L := L) (p := p) (by omega) H.2.2
      refine zr_iconst (q := 1) dX12_commandHere_0 rfl (z_in_of rfl) ?_
      refine zp_al0 (q := 2) dX12_commandHere_1 rfl ?_
      refine zf_getG (v := K) 23 (k517) (hk) rfl fdX12_176 (q := 5) dX12_commandHere_2 rfl rfl ?_
      refine zr_imul (q := 6) dX12_commandHere_5 rfl (fun hA hB => by unfold z_in at hA hB ⊢; omega) ?_
      refine zr_iconst (q := 7) dX12_commandHere_6 rfl (z_in_of rfl) ?_
      refine zr_iadd (q := 8) dX12_commandHere_7 rfl (fun hA hB => by unfold z_in at hA hB ⊢; omega) ?_
      refine zp_is1 (q := 9) dX12_commandHere_8 rfl rfl rfl ?_
      refine zp_al0 (q := 10) dX12_commandHere_9 rfl ?_
      refine zr_bipush (q := 12) dX12_commandHere_10 rfl (z_in_of rfl) (by decide +kernel) ?_
      refine zf_callV1 (k517) (s_X12_skips_x H hp (by omega) (show zCh9 L p ≠ 98 by omega)) mtX12_skips wiX12_skips weX12_skips wlX12_187 (q := 15) dX12_commandHere_12 rfl rfl rfl rfl rfl rfl rfl (fun r S9 M9 h8 hP => ?_) (fun k S9 M9 hP => (z_no hP.1 rfl).elim)
      obtain ⟨rfl, rfl, h9⟩ := hP
      subst M9
      refine zr_if_eq (q := 62) (q2 := 18) dX12_commandHere_15 (by decide) rfl (fun h15 => ?_) (fun h15 => ?_)
      · refine zp_al0 (q := 63) dX12_commandHere_62 rfl ?_
        refine zr_bipush (q := 65) dX12_commandHere_63 rfl (z_in_of rfl) (by decide +kernel) ?_
        refine zf_callV1 (k517) (s_X12_skips_x H hp (by omega) (show zCh9 L p ≠ 115 by omega)) mtX12_skips wiX12_skips weX12_skips wlX12_187 (q := 68) dX12_commandHere_65 rfl rfl rfl rfl rfl rfl rfl (fun r S9 M9 h8 hP => ?_) (fun k S9 M9 hP => (z_no hP.1 rfl).elim)
        obtain ⟨rfl, rfl, h9⟩ := hP
        subst M9
        refine zr_if_eq (q := 80) (q2 := 71) dX12_commandHere_68 (by decide) rfl (fun h68 => ?_) (fun h68 => ?_)
        · refine zp_al0 (q := 81) dX12_commandHere_80 rfl ?_
          refine zr_bipush (q := 83) dX12_commandHere_81 rfl (z_in_of rfl) (by decide +kernel) ?_
          refine zf_callV1 (k517) (s_X12_skips H hp (by omega) (by omega) (by decide) (show zCh9 L p = 99 by omega)) mtX12_skips wiX12_skips weX12_skips wlX12_187 (q := 86) dX12_commandHere_83 rfl rfl rfl rfl rfl rfl rfl (fun r S9 M9 h8 hP => ?_) (fun k S9 M9 hP => (z_no hP.1 rfl).elim)
          obtain ⟨rfl, rfl, t1⟩ := hP
          have H1 := t1.h H
          have p1 : M9 517 21 = p + 1 := t1.2.2.1.trans (by omega)
          have k1 : M9 517 23 = K := (t1.2.1 23 (by decide)).trans hk
          refine zr_if_eq (q := 98) (q2 := 89) dX12_commandHere_86 (by decide) rfl (fun h86 => ?_) (fun h86 => ?_)
          · exact absurd h86 (by decide)
          · refine zp_al0 (q := 90) dX12_commandHere_89 rfl ?_
            refine zr_bipush (q := 92) dX12_commandHere_90 rfl (z_in_of rfl) (by decide +kernel) ?_
            refine zr_ldcS (k := 24) (ci := _) (q := 94) (by decide) rfl rfl dX12_commandHere_92 rfl ?_
            refine zf_callV2 (k517) (s_X12_isWord H1 (p := p + 1) p1 (by omega) (by omega) k1 (by omega) (by omega) zst_24 (w := [101, 114, 116, 105, 102, 121]) hm) mtX12_isWord wiX12_isWord weX12_isWord wlX12_195 (q := 97) dX12_commandHere_94 rfl rfl rfl rfl rfl rfl rfl (fun r S9 M9 h8 hP => ?_) (fun k S9 M9 hP => (z_no hP.1 rfl).elim)
            obtain ⟨rfl, rfl, t2, v2⟩ := hP
            have H2 := t2.h H1
            have p2 : M9 517 21 = zq1 (zCh9 L) p := t2.2.2.1.trans e1
            have k2 : M9 517 23 = K := (t2.2.1 23 (by decide)).trans k1
            refine zr_ireturn dX12_commandHere_97 rfl (z_fit_z (by decide)) ?_
            refine hy ⟨by omega, c1x, c2x, fun h => absurd (hw.symm.trans h) (by decide)⟩ _ (t1.t t2 (c := 5 * K) (d := 5 * K + 5) (fun j hj => by omega)) (((p2.trans f1).trans f2).trans (zCe_3 (by omega) c1x c2x (by omega)).symm) ⟨?_, ?_, ?_, ?_⟩
            · rw [hw]
              exact v2
            · exact fun h => absurd d1 h
            · exact fun h => absurd d2 h
            · exact fun h => absurd (hw.symm.trans h) (by decide)
        · exact absurd rfl h68
      · exact absurd rfl h15
    · have hw : zWw (zCh9 L) p = -1 := by
        unfold zWw
        rw [if_neg (show ¬ zCh9 L p = 98 by omega), if_neg (show ¬ zCh9 L p = 115 by omega), if_pos (show zCh9 L p = 99 by omega)]
        rw [if_neg (show ¬ zMt9 (zCh9 L) [101, 114, 116, 105, 102, 121] (p + 1) = 6 by omega)]
      have ha : zWa (zCh9 L) p = 1 + zMt9 (zCh9 L) [101, 114, 116, 105, 102, 121] (p + 1) := by
        unfold zWa
        rw [if_neg (show ¬ zCh9 L p = 98 by omega), if_neg (show ¬ zCh9 L p = 115 by omega), if_pos (show zCh9 L p = 99 by omega)]
      have e1 : p + 1 + zMt9 (zCh9 L) [101, 114, 116, 105, 102, 121] (p + 1) = zq1 (zCh9 L) p := by
        unfold zq1
        omega
      have l0 := zCh9_lt (L := L) (p := p) (by omega) H.2.2
      refine zr_iconst (q := 1) dX12_commandHere_0 rfl (z_in_of rfl) ?_
      refine zp_al0 (q := 2) dX12_commandHere_1 rfl ?_
      refine zf_getG (v := K) 23 (k517) (hk) rfl fdX12_176 (q := 5) dX12_commandHere_2 rfl rfl ?_
      refine zr_imul (q := 6) dX12_commandHere_5 rfl (fun hA hB => by unfold z_in at hA hB ⊢; omega) ?_
      refine zr_iconst (q := 7) dX12_commandHere_6 rfl (z_in_of rfl) ?_
      refine zr_iadd (q := 8) dX12_commandHere_7 rfl (fun hA hB => by unfold z_in at hA hB ⊢; omega) ?_
      refine zp_is1 (q := 9) dX12_commandHere_8 rfl rfl rfl ?_
      refine zp_al0 (q := 10) dX12_commandHere_9 rfl ?_
      refine zr_bipush (q := 12) dX12_commandHere_10 rfl (z_in_of rfl) (by decide +kernel) ?_
      refine zf_callV1 (k517) (s_X12_skips_x H hp (by omega) (show zCh9 L p ≠ 98 by omega)) mtX12_skips wiX12_skips weX12_skips wlX12_187 (q := 15) dX12_commandHere_12 rfl rfl rfl rfl rfl rfl rfl (fun r S9 M9 h8 hP => ?_) (fun k S9 M9 hP => (z_no hP.1 rfl).elim)
      obtain ⟨rfl, rfl, h9⟩ := hP
      subst M9
      refine zr_if_eq (q := 62) (q2 := 18) dX12_commandHere_15 (by decide) rfl (fun h15 => ?_) (fun h15 => ?_)
      · refine zp_al0 (q := 63) dX12_commandHere_62 rfl ?_
        refine zr_bipush (q := 65) dX12_commandHere_63 rfl (z_in_of rfl) (by decide +kernel) ?_
        refine zf_callV1 (k517) (s_X12_skips_x H hp (by omega) (show zCh9 L p ≠ 115 by omega)) mtX12_skips wiX12_skips weX12_skips wlX12_187 (q := 68) dX12_commandHere_65 rfl rfl rfl rfl rfl rfl rfl (fun r S9 M9 h8 hP => ?_) (fun k S9 M9 hP => (z_no hP.1 rfl).elim)
        obtain ⟨rfl, rfl, h9⟩ := hP
        subst M9
        refine zr_if_eq (q := 80) (q2 := 71) dX12_commandHere_68 (by decide) rfl (fun h68 => ?_) (fun h68 => ?_)
        · refine zp_al0 (q := 81) dX12_commandHere_80 rfl ?_
          refine zr_bipush (q := 83) dX12_commandHere_81 rfl (z_in_of rfl) (by decide +kernel) ?_
          refine zf_callV1 (k517) (s_X12_skips H hp (by omega) (by omega) (by decide) (show zCh9 L p = 99 by omega)) mtX12_skips wiX12_skips weX12_skips wlX12_187 (q := 86) dX12_commandHere_83 rfl rfl rfl rfl rfl rfl rfl (fun r S9 M9 h8 hP => ?_) (fun k S9 M9 hP => (z_no hP.1 rfl).elim)
          obtain ⟨rfl, rfl, t1⟩ := hP
          have H1 := t1.h H
          have p1 : M9 517 21 = p + 1 := t1.2.2.1.trans (by omega)
          have k1 : M9 517 23 = K := (t1.2.1 23 (by decide)).trans hk
          refine zr_if_eq (q := 98) (q2 := 89) dX12_commandHere_86 (by decide) rfl (fun h86 => ?_) (fun h86 => ?_)
          · exact absurd h86 (by decide)
          · refine zp_al0 (q := 90) dX12_commandHere_89 rfl ?_
            refine zr_bipush (q := 92) dX12_commandHere_90 rfl (z_in_of rfl) (by decide +kernel) ?_
            refine zr_ldcS (k := 24) (ci := _) (q := 94) (by decide) rfl rfl dX12_commandHere_92 rfl ?_
            refine zf_callV2 (k517) (s_X12_isWord_x H1 (p := p + 1) p1 (by omega) (by omega) k1 (by omega) (by omega) zst_24 (w := [101, 114, 116, 105, 102, 121]) hm) mtX12_isWord wiX12_isWord weX12_isWord wlX12_195 (q := 97) dX12_commandHere_94 rfl rfl rfl rfl rfl rfl rfl (fun r S9 M9 h8 hP => ?_) (fun k S9 M9 hP => (z_no hP.1 rfl).elim)
            obtain ⟨rfl, rfl, t2⟩ := hP
            have p2 : M9 517 21 = zq1 (zCh9 L) p := t2.2.2.1.trans e1
            refine zr_ireturn dX12_commandHere_97 rfl (z_fit_z (by decide)) ?_
            exact hn (fun ho => by have := ho.1; omega) _ (t1.t t2 (c := 5 * K) (d := 5 * K + 5) (fun j hj => by omega)) (p2.trans (zCe_w (by omega)).symm)
        · exact absurd rfl h68
      · exact absurd rfl h15
  by_cases e114 : zCh9 L p = 114
  · by_cases ho : zCo (zCh9 L) p
    · skip
      refine zr_iconst (q := 1) dX12_commandHere_0 rfl (z_in_of rfl) ?_
      refine zp_al0 (q := 2) dX12_commandHere_1 rfl ?_
      refine zf_getG (v := K) 23 (k517) (hk) rfl fdX12_176 (q := 5) dX12_commandHere_2 rfl rfl ?_
      refine zr_imul (q := 6) dX12_commandHere_5 rfl (fun hA hB => by unfold z_in at hA hB ⊢; omega) ?_
      refine zr_iconst (q := 7) dX12_commandHere_6 rfl (z_in_of rfl) ?_
      refine zr_iadd (q := 8) dX12_commandHere_7 rfl (fun hA hB => by unfold z_in at hA hB ⊢; omega) ?_
      refine zp_is1 (q := 9) dX12_commandHere_8 rfl rfl rfl ?_
      refine zp_al0 (q := 10) dX12_commandHere_9 rfl ?_
      refine zr_bipush (q := 12) dX12_commandHere_10 rfl (z_in_of rfl) (by decide +kernel) ?_
      refine zf_callV1 (k517) (s_X12_skips_x H hp (by omega) (show zCh9 L p ≠ 98 by omega)) mtX12_skips wiX12_skips weX12_skips wlX12_187 (q := 15) dX12_commandHere_12 rfl rfl rfl rfl rfl rfl rfl (fun r S9 M9 h8 hP => ?_) (fun k S9 M9 hP => (z_no hP.1 rfl).elim)
      obtain ⟨rfl, rfl, h9⟩ := hP
      subst M9
      refine zr_if_eq (q := 62) (q2 := 18) dX12_commandHere_15 (by decide) rfl (fun h15 => ?_) (fun h15 => ?_)
      · refine zp_al0 (q := 63) dX12_commandHere_62 rfl ?_
        refine zr_bipush (q := 65) dX12_commandHere_63 rfl (z_in_of rfl) (by decide +kernel) ?_
        refine zf_callV1 (k517) (s_X12_skips_x H hp (by omega) (show zCh9 L p ≠ 115 by omega)) mtX12_skips wiX12_skips weX12_skips wlX12_187 (q := 68) dX12_commandHere_65 rfl rfl rfl rfl rfl rfl rfl (fun r S9 M9 h8 hP => ?_) (fun k S9 M9 hP => (z_no hP.1 rfl).elim)
        obtain ⟨rfl, rfl, h9⟩ := hP
        subst M9
        refine zr_if_eq (q := 80) (q2 := 71) dX12_commandHere_68 (by decide) rfl (fun h68 => ?_) (fun h68 => ?_)
        · refine zp_al0 (q := 81) dX12_commandHere_80 rfl ?_
          refine zr_bipush (q := 83) dX12_commandHere_81 rfl (z_in_of rfl) (by decide +kernel) ?_
          refine zf_callV1 (k517) (s_X12_skips_x H hp (by omega) (show zCh9 L p ≠ 99 by omega)) mtX12_skips wiX12_skips weX12_skips wlX12_187 (q := 86) dX12_commandHere_83 rfl rfl rfl rfl rfl rfl rfl (fun r S9 M9 h8 hP => ?_) (fun k S9 M9 hP => (z_no hP.1 rfl).elim)
          obtain ⟨rfl, rfl, h9⟩ := hP
          subst M9
          refine zr_if_eq (q := 98) (q2 := 89) dX12_commandHere_86 (by decide) rfl (fun h86 => ?_) (fun h86 => ?_)
          · refine zp_al0 (q := 99) dX12_commandHere_98 rfl ?_
            refine zr_bipush (q := 101) dX12_commandHere_99 rfl (z_in_of rfl) (by decide +kernel) ?_
            refine zf_callV1 (k517) (s_X12_skips H hp (by omega) (by omega) (by decide) (show zCh9 L p = 114 by omega)) mtX12_skips wiX12_skips weX12_skips wlX12_187 (q := 104) dX12_commandHere_101 rfl rfl rfl rfl rfl rfl rfl (fun r S9 M9 h8 hP => ?_) (fun k S9 M9 hP => (z_no hP.1 rfl).elim)
            obtain ⟨rfl, rfl, t1⟩ := hP
            have H1 := t1.h H
            have p1 : M9 517 21 = p + 1 := t1.2.2.1.trans (by omega)
            have k1 : M9 517 23 = K := (t1.2.1 23 (by decide)).trans hk
            refine zr_if_eq (q := 113) (q2 := 107) dX12_commandHere_104 (by decide) rfl (fun h104 => ?_) (fun h104 => ?_)
            · exact absurd h104 (by decide)
            · refine zp_al0 (q := 108) dX12_commandHere_107 rfl ?_
              refine zp_il1 (q := 109) dX12_commandHere_108 rfl ?_
              refine zf_callV1 (k517) (s_X12_withR H1 hE h0 h1 K0 K1 k1 p1 e114 ho) mtX12_withR wiX12_withR weX12_withR wlX12_215 (q := 112) dX12_commandHere_109 rfl rfl rfl rfl rfl rfl rfl (fun r S9 M9 h8 hP => ?_) (fun k S9 M9 hP => (z_no hP.1 rfl).elim)
              obtain ⟨rfl, rfl, t2, y2, z2⟩ := hP
              refine zr_ireturn dX12_commandHere_112 rfl (z_fit_z (by decide)) ?_
              exact hy ho _ (t1.t t2 (c := 5 * K) (d := 5 * K + 5) (fun j hj => by omega)) y2 z2
          · exact absurd rfl h86
        · exact absurd rfl h68
      · exact absurd rfl h15
    · skip
      refine zr_iconst (q := 1) dX12_commandHere_0 rfl (z_in_of rfl) ?_
      refine zp_al0 (q := 2) dX12_commandHere_1 rfl ?_
      refine zf_getG (v := K) 23 (k517) (hk) rfl fdX12_176 (q := 5) dX12_commandHere_2 rfl rfl ?_
      refine zr_imul (q := 6) dX12_commandHere_5 rfl (fun hA hB => by unfold z_in at hA hB ⊢; omega) ?_
      refine zr_iconst (q := 7) dX12_commandHere_6 rfl (z_in_of rfl) ?_
      refine zr_iadd (q := 8) dX12_commandHere_7 rfl (fun hA hB => by unfold z_in at hA hB ⊢; omega) ?_
      refine zp_is1 (q := 9) dX12_commandHere_8 rfl rfl rfl ?_
      refine zp_al0 (q := 10) dX12_commandHere_9 rfl ?_
      refine zr_bipush (q := 12) dX12_commandHere_10 rfl (z_in_of rfl) (by decide +kernel) ?_
      refine zf_callV1 (k517) (s_X12_skips_x H hp (by omega) (show zCh9 L p ≠ 98 by omega)) mtX12_skips wiX12_skips weX12_skips wlX12_187 (q := 15) dX12_commandHere_12 rfl rfl rfl rfl rfl rfl rfl (fun r S9 M9 h8 hP => ?_) (fun k S9 M9 hP => (z_no hP.1 rfl).elim)
      obtain ⟨rfl, rfl, h9⟩ := hP
      subst M9
      refine zr_if_eq (q := 62) (q2 := 18) dX12_commandHere_15 (by decide) rfl (fun h15 => ?_) (fun h15 => ?_)
      · refine zp_al0 (q := 63) dX12_commandHere_62 rfl ?_
        refine zr_bipush (q := 65) dX12_commandHere_63 rfl (z_in_of rfl) (by decide +kernel) ?_
        refine zf_callV1 (k517) (s_X12_skips_x H hp (by omega) (show zCh9 L p ≠ 115 by omega)) mtX12_skips wiX12_skips weX12_skips wlX12_187 (q := 68) dX12_commandHere_65 rfl rfl rfl rfl rfl rfl rfl (fun r S9 M9 h8 hP => ?_) (fun k S9 M9 hP => (z_no hP.1 rfl).elim)
        obtain ⟨rfl, rfl, h9⟩ := hP
        subst M9
        refine zr_if_eq (q := 80) (q2 := 71) dX12_commandHere_68 (by decide) rfl (fun h68 => ?_) (fun h68 => ?_)
        · refine zp_al0 (q := 81) dX12_commandHere_80 rfl ?_
          refine zr_bipush (q := 83) dX12_commandHere_81 rfl (z_in_of rfl) (by decide +kernel) ?_
          refine zf_callV1 (k517) (s_X12_skips_x H hp (by omega) (show zCh9 L p ≠ 99 by omega)) mtX12_skips wiX12_skips weX12_skips wlX12_187 (q := 86) dX12_commandHere_83 rfl rfl rfl rfl rfl rfl rfl (fun r S9 M9 h8 hP => ?_) (fun k S9 M9 hP => (z_no hP.1 rfl).elim)
          obtain ⟨rfl, rfl, h9⟩ := hP
          subst M9
          refine zr_if_eq (q := 98) (q2 := 89) dX12_commandHere_86 (by decide) rfl (fun h86 => ?_) (fun h86 => ?_)
          · refine zp_al0 (q := 99) dX12_commandHere_98 rfl ?_
            refine zr_bipush (q := 101) dX12_commandHere_99 rfl (z_in_of rfl) (by decide +kernel) ?_
            refine zf_callV1 (k517) (s_X12_skips H hp (by omega) (by omega) (by decide) (show zCh9 L p = 114 by omega)) mtX12_skips wiX12_skips weX12_skips wlX12_187 (q := 104) dX12_commandHere_101 rfl rfl rfl rfl rfl rfl rfl (fun r S9 M9 h8 hP => ?_) (fun k S9 M9 hP => (z_no hP.1 rfl).elim)
            obtain ⟨rfl, rfl, t1⟩ := hP
            have H1 := t1.h H
            have p1 : M9 517 21 = p + 1 := t1.2.2.1.trans (by omega)
            have k1 : M9 517 23 = K := (t1.2.1 23 (by decide)).trans hk
            refine zr_if_eq (q := 113) (q2 := 107) dX12_commandHere_104 (by decide) rfl (fun h104 => ?_) (fun h104 => ?_)
            · exact absurd h104 (by decide)
            · refine zp_al0 (q := 108) dX12_commandHere_107 rfl ?_
              refine zp_il1 (q := 109) dX12_commandHere_108 rfl ?_
              refine zf_callV1 (k517) (s_X12_withR_x H1 hE h0 h1 K0 K1 k1 p1 e114 ho) mtX12_withR wiX12_withR weX12_withR wlX12_215 (q := 112) dX12_commandHere_109 rfl rfl rfl rfl rfl rfl rfl (fun r S9 M9 h8 hP => ?_) (fun k S9 M9 hP => (z_no hP.1 rfl).elim)
              obtain ⟨rfl, rfl, t2, y2⟩ := hP
              refine zr_ireturn dX12_commandHere_112 rfl (z_fit_z (by decide)) ?_
              exact hn ho _ (t1.t t2 (c := 5 * K) (d := 5 * K + 5) (fun j hj => by omega)) y2
          · exact absurd rfl h86
        · exact absurd rfl h68
      · exact absurd rfl h15
  by_cases e119 : zCh9 L p = 119
  · by_cases e1 : zCh9 L (p + 1) = 105
    · by_cases e2 : zCh9 L (p + 2) = 110
      · have hmt := zMt9_range (zCh9 L) [100] (p + 3)
        rw [show (([100] : List Int).length : Int) = 1 from rfl] at hmt
        by_cases hm : zMt9 (zCh9 L) [100] (p + 3) = 1
        · have hww : zWw (zCh9 L) p = 0 := by
            unfold zWw
            rw [if_neg (show ¬ zCh9 L p = 98 by omega), if_neg (show ¬ zCh9 L p = 115 by omega), if_neg (show ¬ zCh9 L p = 99 by omega), if_neg (show ¬ zCh9 L p = 114 by omega), if_pos (show zCh9 L p = 119 by omega), if_pos (show zCh9 L (p + 1) = 105 by omega), if_pos (show zCh9 L (p + 2) = 110 by omega)]
            rw [if_pos hm]
          have d1 : zD1 (zWw (zCh9 L) p) = 0 := by rw [hww]; rfl
          have d2 : zD2 (zWw (zCh9 L) p) = 0 := by rw [hww]; rfl
          have g10 := g9 (by omega)
          have f1 : zq1 (zCh9 L) p = zq2 (zCh9 L) p := (if_pos d1).symm
          have f2 : zq2 (zCh9 L) p = zq3 (zCh9 L) p := (if_pos d2).symm
          have c1x : zPo (zCh9 L) (zq1 (zCh9 L) p) (zD1 (zWw (zCh9 L) p)) := Or.inl d1
          have c2x : zPo (zCh9 L) (zq2 (zCh9 L) p) (zD2 (zWw (zCh9 L) p)) := Or.inl d2
          have hw : zWw (zCh9 L) p = 0 := by
            unfold zWw
            rw [if_neg (show ¬ zCh9 L p = 98 by omega), if_neg (show ¬ zCh9 L p = 115 by omega), if_neg (show ¬ zCh9 L p = 99 by omega), if_neg (show ¬ zCh9 L p = 114 by omega), if_pos (show zCh9 L p = 119 by omega), if_pos (show zCh9 L (p + 1) = 105 by omega), if_pos (show zCh9 L (p + 2) = 110 by omega)]
            rw [if_pos (show zMt9 (zCh9 L) [100] (p + 3) = 1 by omega)]
          have ha : zWa (zCh9 L) p = 3 + zMt9 (zCh9 L) [100] (p + 3) := by
            unfold zWa
            rw [if_neg (show ¬ zCh9 L p = 98 by omega), if_neg (show ¬ zCh9 L p = 115 by omega), if_neg (show ¬ zCh9 L p = 99 by omega), if_neg (show ¬ zCh9 L p = 114 by omega), if_pos (show zCh9 L p = 119 by omega), if_pos (show zCh9 L (p + 1) = 105 by omega), if_pos (show zCh9 L (p + 2) = 110 by omega)]
          have e1 : p + 3 + zMt9 (zCh9 L) [100] (p + 3) = zq1 (zCh9 L) p := by
            unfold zq1
            omega
          have l0 := zCh9_lt (L := L) (p := p) (by omega) H.2.2
          have l1 := zCh9_lt (L := L) (p := p + 1) (by omega) H.2.2
          have l2 := zCh9_lt (L := L) (p := p + 2) (by omega) H.2.2
          refine zr_iconst (q := 1) dX12_commandHere_0 rfl (z_in_of rfl) ?_
          refine zp_al0 (q := 2) dX12_commandHere_1 rfl ?_
          refine zf_getG (v := K) 23 (k517) (hk) rfl fdX12_176 (q := 5) dX12_commandHere_2 rfl rfl ?_
          refine zr_imul (q := 6) dX12_commandHere_5 rfl (fun hA hB => by unfold z_in at hA hB ⊢; omega) ?_
          refine zr_iconst (q := 7) dX12_commandHere_6 rfl (z_in_of rfl) ?_
          refine zr_iadd (q := 8) dX12_commandHere_7 rfl (fun hA hB => by unfold z_in at hA hB ⊢; omega) ?_
          refine zp_is1 (q := 9) dX12_commandHere_8 rfl rfl rfl ?_
          refine zp_al0 (q := 10) dX12_commandHere_9 rfl ?_
          refine zr_bipush (q := 12) dX12_commandHere_10 rfl (z_in_of rfl) (by decide +kernel) ?_
          refine zf_callV1 (k517) (s_X12_skips_x H hp (by omega) (show zCh9 L p ≠ 98 by omega)) mtX12_skips wiX12_skips weX12_skips wlX12_187 (q := 15) dX12_commandHere_12 rfl rfl rfl rfl rfl rfl rfl (fun r S9 M9 h8 hP => ?_) (fun k S9 M9 hP => (z_no hP.1 rfl).elim)
          obtain ⟨rfl, rfl, h9⟩ := hP
          subst M9
          refine zr_if_eq (q := 62) (q2 := 18) dX12_commandHere_15 (by decide) rfl (fun h15 => ?_) (fun h15 => ?_)
          · refine zp_al0 (q := 63) dX12_commandHere_62 rfl ?_
            refine zr_bipush (q := 65) dX12_commandHere_63 rfl (z_in_of rfl) (by decide +kernel) ?_
            refine zf_callV1 (k517) (s_X12_skips_x H hp (by omega) (show zCh9 L p ≠ 115 by omega)) mtX12_skips wiX12_skips weX12_skips wlX12_187 (q := 68) dX12_commandHere_65 rfl rfl rfl rfl rfl rfl rfl (fun r S9 M9 h8 hP => ?_) (fun k S9 M9 hP => (z_no hP.1 rfl).elim)
            obtain ⟨rfl, rfl, h9⟩ := hP
            subst M9
            refine zr_if_eq (q := 80) (q2 := 71) dX12_commandHere_68 (by decide) rfl (fun h68 => ?_) (fun h68 => ?_)
            · refine zp_al0 (q := 81) dX12_commandHere_80 rfl ?_
              refine zr_bipush (q := 83) dX12_commandHere_81 rfl (z_in_of rfl) (by decide +kernel) ?_
              refine zf_callV1 (k517) (s_X12_skips_x H hp (by omega) (show zCh9 L p ≠ 99 by omega)) mtX12_skips wiX12_skips weX12_skips wlX12_187 (q := 86) dX12_commandHere_83 rfl rfl rfl rfl rfl rfl rfl (fun r S9 M9 h8 hP => ?_) (fun k S9 M9 hP => (z_no hP.1 rfl).elim)
              obtain ⟨rfl, rfl, h9⟩ := hP
              subst M9
              refine zr_if_eq (q := 98) (q2 := 89) dX12_commandHere_86 (by decide) rfl (fun h86 => ?_) (fun h86 => ?_)
              · refine zp_al0 (q := 99) dX12_commandHere_98 rfl ?_
                refine zr_bipush (q := 101) dX12_commandHere_99 rfl (z_in_of rfl) (by decide +kernel) ?_
                refine zf_callV1 (k517) (s_X12_skips_x H hp (by omega) (show zCh9 L p ≠ 114 by omega)) mtX12_skips wiX12_skips weX12_skips wlX12_187 (q := 104) dX12_commandHere_101 rfl rfl rfl rfl rfl rfl rfl (fun r S9 M9 h8 hP => ?_) (fun k S9 M9 hP => (z_no hP.1 rfl).elim)
                obtain ⟨rfl, rfl, h9⟩ := hP
                subst M9
                refine zr_if_eq (q := 113) (q2 := 107) dX12_commandHere_104 (by decide) rfl (fun h104 => ?_) (fun h104 => ?_)
                · refine zp_al0 (q := 114) dX12_commandHere_113 rfl ?_
                  refine zr_bipush (q := 116) dX12_commandHere_114 rfl (z_in_of rfl) (by decide +kernel) ?_
                  refine zf_callV1 (k517) (s_X12_skips H hp (by omega) (by omega) (by decide) (show zCh9 L p = 119 by omega)) mtX12_skips wiX12_skips weX12_skips wlX12_187 (q := 119) dX12_commandHere_116 rfl rfl rfl rfl rfl rfl rfl (fun r S9 M9 h8 hP => ?_) (fun k S9 M9 hP => (z_no hP.1 rfl).elim)
                  obtain ⟨rfl, rfl, t1⟩ := hP
                  have H1 := t1.h H
                  have p1 : M9 517 21 = p + 1 := t1.2.2.1.trans (by omega)
                  have k1 : M9 517 23 = K := (t1.2.1 23 (by decide)).trans hk
                  refine zr_if_eq (q := 131) (q2 := 122) dX12_commandHere_119 (by decide) rfl (fun h119 => ?_) (fun h119 => ?_)
                  · exact absurd h119 (by decide)
                  · refine zp_al0 (q := 123) dX12_commandHere_122 rfl ?_
                    refine zr_bipush (q := 125) dX12_commandHere_123 rfl (z_in_of rfl) (by decide +kernel) ?_
                    refine zf_callV1 (k517) (s_X12_skips H1 p1 (by omega) (by omega) (by decide) (show zCh9 L (p + 1) = 105 by omega)) mtX12_skips wiX12_skips weX12_skips wlX12_187 (q := 128) dX12_commandHere_125 rfl rfl rfl rfl rfl rfl rfl (fun r S9 M9 h8 hP => ?_) (fun k S9 M9 hP => (z_no hP.1 rfl).elim)
                    obtain ⟨rfl, rfl, t2⟩ := hP
                    have H2 := t2.h H1
                    have p2 : M9 517 21 = p + 2 := t2.2.2.1.trans (by omega)
                    have k2 : M9 517 23 = K := (t2.2.1 23 (by decide)).trans k1
                    refine zr_if_ne (q := 133) (q2 := 131) dX12_commandHere_128 (by decide) rfl (fun h128 => ?_) (fun h128 => ?_)
                    · refine zp_al0 (q := 134) dX12_commandHere_133 rfl ?_
                      refine zr_bipush (q := 136) dX12_commandHere_134 rfl (z_in_of rfl) (by decide +kernel) ?_
                      refine zf_callV1 (k517) (s_X12_skips H2 p2 (by omega) (by omega) (by decide) (show zCh9 L (p + 2) = 110 by omega)) mtX12_skips wiX12_skips weX12_skips wlX12_187 (q := 139) dX12_commandHere_136 rfl rfl rfl rfl rfl rfl rfl (fun r S9 M9 h8 hP => ?_) (fun k S9 M9 hP => (z_no hP.1 rfl).elim)
                      obtain ⟨rfl, rfl, t3⟩ := hP
                      have H3 := t3.h H2
                      have p3 : M9 517 21 = p + 3 := t3.2.2.1.trans (by omega)
                      have k3 : M9 517 23 = K := (t3.2.1 23 (by decide)).trans k2
                      refine zr_if_eq (q := 150) (q2 := 142) dX12_commandHere_139 (by decide) rfl (fun h139 => ?_) (fun h139 => ?_)
                      · exact absurd h139 (by decide)
                      · refine zp_al0 (q := 143) dX12_commandHere_142 rfl ?_
                        refine zr_iconst (q := 144) dX12_commandHere_143 rfl (z_in_of rfl) ?_
                        refine zr_ldcS (k := 28) (ci := _) (q := 146) (by decide) rfl rfl dX12_commandHere_144 rfl ?_
                        refine zf_callV2 (k517) (s_X12_isWord H3 (p := p + 3) p3 (by omega) (by omega) k3 (by omega) (by omega) zst_28 (w := [100]) hm) mtX12_isWord wiX12_isWord weX12_isWord wlX12_195 (q := 149) dX12_commandHere_146 rfl rfl rfl rfl rfl rfl rfl (fun r S9 M9 h8 hP => ?_) (fun k S9 M9 hP => (z_no hP.1 rfl).elim)
                        obtain ⟨rfl, rfl, t4, v4⟩ := hP
                        have H4 := t4.h H3
                        have p4 : M9 517 21 = zq1 (zCh9 L) p := t4.2.2.1.trans e1
                        have k4 : M9 517 23 = K := (t4.2.1 23 (by decide)).trans k3
                        refine zr_ireturn dX12_commandHere_149 rfl (z_fit_z (by decide)) ?_
                        refine hy ⟨by omega, c1x, c2x, fun h => absurd (hw.symm.trans h) (by decide)⟩ _ (t1.t (t2.t (t3.t t4 (c := 5 * K) (d := 5 * K + 5) (fun j hj => by omega)) (c := 5 * K) (d := 5 * K + 5) (fun j hj => by omega)) (c := 5 * K) (d := 5 * K + 5) (fun j hj => by omega)) (((p4.trans f1).trans f2).trans (zCe_3 (by omega) c1x c2x (by omega)).symm) ⟨?_, ?_, ?_, ?_⟩
                        · rw [hw]
                          exact v4
                        · exact fun h => absurd d1 h
                        · exact fun h => absurd d2 h
                        · exact fun h => absurd (hw.symm.trans h) (by decide)
                    · exact absurd (by decide) h128
                · exact absurd rfl h104
              · exact absurd rfl h86
            · exact absurd rfl h68
          · exact absurd rfl h15
        · have hw : zWw (zCh9 L) p = -1 := by
            unfold zWw
            rw [if_neg (show ¬ zCh9 L p = 98 by omega), if_neg (show ¬ zCh9 L p = 115 by omega), if_neg (show ¬ zCh9 L p = 99 by omega), if_neg (show ¬ zCh9 L p = 114 by omega), if_pos (show zCh9 L p = 119 by omega), if_pos (show zCh9 L (p + 1) = 105 by omega), if_pos (show zCh9 L (p + 2) = 110 by omega)]
            rw [if_neg (show ¬ zMt9 (zCh9 L) [100] (p + 3) = 1 by omega)]
          have ha : zWa (zCh9 L) p = 3 + zMt9 (zCh9 L) [100] (p + 3) := by
            unfold zWa
            rw [if_neg (show ¬ zCh9 L p = 98 by omega), if_neg (show ¬ zCh9 L p = 115 by omega), if_neg (show ¬ zCh9 L p = 99 by omega), if_neg (show ¬ zCh9 L p = 114 by omega), if_pos (show zCh9 L p = 119 by omega), if_pos (show zCh9 L (p + 1) = 105 by omega), if_pos (show zCh9 L (p + 2) = 110 by omega)]
          have e1 : p + 3 + zMt9 (zCh9 L) [100] (p + 3) = zq1 (zCh9 L) p := by
            unfold zq1
            omega
          have l0 := zCh9_lt (L := L) (p := p) (by omega) H.2.2
          have l1 := zCh9_lt (L := L) (p := p + 1) (by omega) H.2.2
          have l2 := zCh9_lt (L := L) (p := p + 2) (by omega) H.2.2
          refine zr_iconst (q := 1) dX12_commandHere_0 rfl (z_in_of rfl) ?_
          refine zp_al0 (q := 2) dX12_commandHere_1 rfl ?_
          refine zf_getG (v := K) 23 (k517) (hk) rfl fdX12_176 (q := 5) dX12_commandHere_2 rfl rfl ?_
          refine zr_imul (q := 6) dX12_commandHere_5 rfl (fun hA hB => by unfold z_in at hA hB ⊢; omega) ?_
          refine zr_iconst (q := 7) dX12_commandHere_6 rfl (z_in_of rfl) ?_
          refine zr_iadd (q := 8) dX12_commandHere_7 rfl (fun hA hB => by unfold z_in at hA hB ⊢; omega) ?_
          refine zp_is1 (q := 9) dX12_commandHere_8 rfl rfl rfl ?_
          refine zp_al0 (q := 10) dX12_commandHere_9 rfl ?_
          refine zr_bipush (q := 12) dX12_commandHere_10 rfl (z_in_of rfl) (by decide +kernel) ?_
          refine zf_callV1 (k517) (s_X12_skips_x H hp (by omega) (show zCh9 L p ≠ 98 by omega)) mtX12_skips wiX12_skips weX12_skips wlX12_187 (q := 15) dX12_commandHere_12 rfl rfl rfl rfl rfl rfl rfl (fun r S9 M9 h8 hP => ?_) (fun k S9 M9 hP => (z_no hP.1 rfl).elim)
          obtain ⟨rfl, rfl, h9⟩ := hP
          subst M9
          refine zr_if_eq (q := 62) (q2 := 18) dX12_commandHere_15 (by decide) rfl (fun h15 => ?_) (fun h15 => ?_)
          · refine zp_al0 (q := 63) dX12_commandHere_62 rfl ?_
            refine zr_bipush (q := 65) dX12_commandHere_63 rfl (z_in_of rfl) (by decide +kernel) ?_
            refine zf_callV1 (k517) (s_X12_skips_x H hp (by omega) (show zCh9 L p ≠ 115 by omega)) mtX12_skips wiX12_skips weX12_skips wlX12_187 (q := 68) dX12_commandHere_65 rfl rfl rfl rfl rfl rfl rfl (fun r S9 M9 h8 hP => ?_) (fun k S9 M9 hP => (z_no hP.1 rfl).elim)
            obtain ⟨rfl, rfl, h9⟩ := hP
            subst M9
            refine zr_if_eq (q := 80) (q2 := 71) dX12_commandHere_68 (by decide) rfl (fun h68 => ?_) (fun h68 => ?_)
            · refine zp_al0 (q := 81) dX12_commandHere_80 rfl ?_
              refine zr_bipush (q := 83) dX12_commandHere_81 rfl (z_in_of rfl) (by decide +kernel) ?_
              refine zf_callV1 (k517) (s_X12_skips_x H hp (by omega) (show zCh9 L p ≠ 99 by omega)) mtX12_skips wiX12_skips weX12_skips wlX12_187 (q := 86) dX12_commandHere_83 rfl rfl rfl rfl rfl rfl rfl (fun r S9 M9 h8 hP => ?_) (fun k S9 M9 hP => (z_no hP.1 rfl).elim)
              obtain ⟨rfl, rfl, h9⟩ := hP
              subst M9
              refine zr_if_eq (q := 98) (q2 := 89) dX12_commandHere_86 (by decide) rfl (fun h86 => ?_) (fun h86 => ?_)
              · refine zp_al0 (q := 99) dX12_commandHere_98 rfl ?_
                refine zr_bipush (q := 101) dX12_commandHere_99 rfl (z_in_of rfl) (by decide +kernel) ?_
                refine zf_callV1 (k517) (s_X12_skips_x H hp (by omega) (show zCh9 L p ≠ 114 by omega)) mtX12_skips wiX12_skips weX12_skips wlX12_187 (q := 104) dX12_commandHere_101 rfl rfl rfl rfl rfl rfl rfl (fun r S9 M9 h8 hP => ?_) (fun k S9 M9 hP => (z_no hP.1 rfl).elim)
                obtain ⟨rfl, rfl, h9⟩ := hP
                subst M9
                refine zr_if_eq (q := 113) (q2 := 107) dX12_commandHere_104 (by decide) rfl (fun h104 => ?_) (fun h104 => ?_)
                · refine zp_al0 (q := 114) dX12_commandHere_113 rfl ?_
                  refine zr_bipush (q := 116) dX12_commandHere_114 rfl (z_in_of rfl) (by decide +kernel) ?_
                  refine zf_callV1 (k517) (s_X12_skips H hp (by omega) (by omega) (by decide) (show zCh9 L p = 119 by omega)) mtX12_skips wiX12_skips weX12_skips wlX12_187 (q := 119) dX12_commandHere_116 rfl rfl rfl rfl rfl rfl rfl (fun r S9 M9 h8 hP => ?_) (fun k S9 M9 hP => (z_no hP.1 rfl).elim)
                  obtain ⟨rfl, rfl, t1⟩ := hP
                  have H1 := t1.h H
                  have p1 : M9 517 21 = p + 1 := t1.2.2.1.trans (by omega)
                  have k1 : M9 517 23 = K := (t1.2.1 23 (by decide)).trans hk
                  refine zr_if_eq (q := 131) (q2 := 122) dX12_commandHere_119 (by decide) rfl (fun h119 => ?_) (fun h119 => ?_)
                  · exact absurd h119 (by decide)
                  · refine zp_al0 (q := 123) dX12_commandHere_122 rfl ?_
                    refine zr_bipush (q := 125) dX12_commandHere_123 rfl (z_in_of rfl) (by decide +kernel) ?_
                    refine zf_callV1 (k517) (s_X12_skips H1 p1 (by omega) (by omega) (by decide) (show zCh9 L (p + 1) = 105 by omega)) mtX12_skips wiX12_skips weX12_skips wlX12_187 (q := 128) dX12_commandHere_125 rfl rfl rfl rfl rfl rfl rfl (fun r S9 M9 h8 hP => ?_) (fun k S9 M9 hP => (z_no hP.1 rfl).elim)
                    obtain ⟨rfl, rfl, t2⟩ := hP
                    have H2 := t2.h H1
                    have p2 : M9 517 21 = p + 2 := t2.2.2.1.trans (by omega)
                    have k2 : M9 517 23 = K := (t2.2.1 23 (by decide)).trans k1
                    refine zr_if_ne (q := 133) (q2 := 131) dX12_commandHere_128 (by decide) rfl (fun h128 => ?_) (fun h128 => ?_)
                    · refine zp_al0 (q := 134) dX12_commandHere_133 rfl ?_
                      refine zr_bipush (q := 136) dX12_commandHere_134 rfl (z_in_of rfl) (by decide +kernel) ?_
                      refine zf_callV1 (k517) (s_X12_skips H2 p2 (by omega) (by omega) (by decide) (show zCh9 L (p + 2) = 110 by omega)) mtX12_skips wiX12_skips weX12_skips wlX12_187 (q := 139) dX12_commandHere_136 rfl rfl rfl rfl rfl rfl rfl (fun r S9 M9 h8 hP => ?_) (fun k S9 M9 hP => (z_no hP.1 rfl).elim)
                      obtain ⟨rfl, rfl, t3⟩ := hP
                      have H3 := t3.h H2
                      have p3 : M9 517 21 = p + 3 := t3.2.2.1.trans (by omega)
                      have k3 : M9 517 23 = K := (t3.2.1 23 (by decide)).trans k2
                      refine zr_if_eq (q := 150) (q2 := 142) dX12_commandHere_139 (by decide) rfl (fun h139 => ?_) (fun h139 => ?_)
                      · exact absurd h139 (by decide)
                      · refine zp_al0 (q := 143) dX12_commandHere_142 rfl ?_
                        refine zr_iconst (q := 144) dX12_commandHere_143 rfl (z_in_of rfl) ?_
                        refine zr_ldcS (k := 28) (ci := _) (q := 146) (by decide) rfl rfl dX12_commandHere_144 rfl ?_
                        refine zf_callV2 (k517) (s_X12_isWord_x H3 (p := p + 3) p3 (by omega) (by omega) k3 (by omega) (by omega) zst_28 (w := [100]) hm) mtX12_isWord wiX12_isWord weX12_isWord wlX12_195 (q := 149) dX12_commandHere_146 rfl rfl rfl rfl rfl rfl rfl (fun r S9 M9 h8 hP => ?_) (fun k S9 M9 hP => (z_no hP.1 rfl).elim)
                        obtain ⟨rfl, rfl, t4⟩ := hP
                        have p4 : M9 517 21 = zq1 (zCh9 L) p := t4.2.2.1.trans e1
                        refine zr_ireturn dX12_commandHere_149 rfl (z_fit_z (by decide)) ?_
                        exact hn (fun ho => by have := ho.1; omega) _ (t1.t (t2.t (t3.t t4 (c := 5 * K) (d := 5 * K + 5) (fun j hj => by omega)) (c := 5 * K) (d := 5 * K + 5) (fun j hj => by omega)) (c := 5 * K) (d := 5 * K + 5) (fun j hj => by omega)) (p4.trans (zCe_w (by omega)).symm)
                    · exact absurd (by decide) h128
                · exact absurd rfl h104
              · exact absurd rfl h86
            · exact absurd rfl h68
          · exact absurd rfl h15
      by_cases e2b : zCh9 L (p + 2) = 116
      · have hmt := zMt9_range (zCh9 L) [104, 100, 114, 97, 119] (p + 3)
        rw [show (([104, 100, 114, 97, 119] : List Int).length : Int) = 5 from rfl] at hmt
        by_cases hm : zMt9 (zCh9 L) [104, 100, 114, 97, 119] (p + 3) = 5
        · have hww : zWw (zCh9 L) p = 1 := by
            unfold zWw
            rw [if_neg (show ¬ zCh9 L p = 98 by omega), if_neg (show ¬ zCh9 L p = 115 by omega), if_neg (show ¬ zCh9 L p = 99 by omega), if_neg (show ¬ zCh9 L p = 114 by omega), if_pos (show zCh9 L p = 119 by omega), if_pos (show zCh9 L (p + 1) = 105 by omega), if_neg (show ¬ zCh9 L (p + 2) = 110 by omega), if_pos (show zCh9 L (p + 2) = 116 by omega)]
            rw [if_pos hm]
          have d1 : zD1 (zWw (zCh9 L) p) = 1 := by rw [hww]; rfl
          have d2 : zD2 (zWw (zCh9 L) p) = 0 := by rw [hww]; rfl
          have g10 := g9 (by omega)
          have f1 : zPe (zCh9 L) (zq1 (zCh9 L) p) 1 = zq2 (zCh9 L) p := by unfold zq2; rw [d1]
          have f2 : zq2 (zCh9 L) p = zq3 (zCh9 L) p := (if_pos d2).symm
          by_cases c1 : zPo (zCh9 L) (zq1 (zCh9 L) p) 1
          · have c1x : zPo (zCh9 L) (zq1 (zCh9 L) p) (zD1 (zWw (zCh9 L) p)) := by rw [d1]; exact c1
            have c2x : zPo (zCh9 L) (zq2 (zCh9 L) p) (zD2 (zWw (zCh9 L) p)) := Or.inl d2
            have hw : zWw (zCh9 L) p = 1 := by
              unfold zWw
              rw [if_neg (show ¬ zCh9 L p = 98 by omega), if_neg (show ¬ zCh9 L p = 115 by omega), if_neg (show ¬ zCh9 L p = 99 by omega), if_neg (show ¬ zCh9 L p = 114 by omega), if_pos (show zCh9 L p = 119 by omega), if_pos (show zCh9 L (p + 1) = 105 by omega), if_neg (show ¬ zCh9 L (p + 2) = 110 by omega), if_pos (show zCh9 L (p + 2) = 116 by omega)]
              rw [if_pos (show zMt9 (zCh9 L) [104, 100, 114, 97, 119] (p + 3) = 5 by omega)]
            have ha : zWa (zCh9 L) p = 3 + zMt9 (zCh9 L) [104, 100, 114, 97, 119] (p + 3) := by
              unfold zWa
              rw [if_neg (show ¬ zCh9 L p = 98 by omega), if_neg (show ¬ zCh9 L p = 115 by omega), if_neg (show ¬ zCh9 L p = 99 by omega), if_neg (show ¬ zCh9 L p = 114 by omega), if_pos (show zCh9 L p = 119 by omega), if_pos (show zCh9 L (p + 1) = 105 by omega), if_neg (show ¬ zCh9 L (p + 2) = 110 by omega), if_pos (show zCh9 L (p + 2) = 116 by omega)]
            have e1 : p + 3 + zMt9 (zCh9 L) [104, 100, 114, 97, 119] (p + 3) = zq1 (zCh9 L) p := by
              unfold zq1
              omega
            have l0 := zCh9_lt (L := L) (p := p) (by omega) H.2.2
            have l1 := zCh9_lt (L := L) (p := p + 1) (by omega) H.2.2
            have l2 := zCh9_lt (L := L) (p := p + 2) (by omega) H.2.2
            refine zr_iconst (q := 1) dX12_commandHere_0 rfl (z_in_of rfl) ?_
            refine zp_al0 (q := 2) dX12_commandHere_1 rfl ?_
            refine zf_getG (v := K) 23 (k517) (hk) rfl fdX12_176 (q := 5) dX12_commandHere_2 rfl rfl ?_
            refine zr_imul (q := 6) dX12_commandHere_5 rfl (fun hA hB => by unfold z_in at hA hB ⊢; omega) ?_
            refine zr_iconst (q := 7) dX12_commandHere_6 rfl (z_in_of rfl) ?_
            refine zr_iadd (q := 8) dX12_commandHere_7 rfl (fun hA hB => by unfold z_in at hA hB ⊢; omega) ?_
            refine zp_is1 (q := 9) dX12_commandHere_8 rfl rfl rfl ?_
            refine zp_al0 (q := 10) dX12_commandHere_9 rfl ?_
            refine zr_bipush (q := 12) dX12_commandHere_10 rfl (z_in_of rfl) (by decide +kernel) ?_
            refine zf_callV1 (k517) (s_X12_skips_x H hp (by omega) (show zCh9 L p ≠ 98 by omega)) mtX12_skips wiX12_skips weX12_skips wlX12_187 (q := 15) dX12_commandHere_12 rfl rfl rfl rfl rfl rfl rfl (fun r S9 M9 h8 hP => ?_) (fun k S9 M9 hP => (z_no hP.1 rfl).elim)
            obtain ⟨rfl, rfl, h9⟩ := hP
            subst M9
            refine zr_if_eq (q := 62) (q2 := 18) dX12_commandHere_15 (by decide) rfl (fun h15 => ?_) (fun h15 => ?_)
            · refine zp_al0 (q := 63) dX12_commandHere_62 rfl ?_
              refine zr_bipush (q := 65) dX12_commandHere_63 rfl (z_in_of rfl) (by decide +kernel) ?_
              refine zf_callV1 (k517) (s_X12_skips_x H hp (by omega) (show zCh9 L p ≠ 115 by omega)) mtX12_skips wiX12_skips weX12_skips wlX12_187 (q := 68) dX12_commandHere_65 rfl rfl rfl rfl rfl rfl rfl (fun r S9 M9 h8 hP => ?_) (fun k S9 M9 hP => (z_no hP.1 rfl).elim)
              obtain ⟨rfl, rfl, h9⟩ := hP
              subst M9
              refine zr_if_eq (q := 80) (q2 := 71) dX12_commandHere_68 (by decide) rfl (fun h68 => ?_) (fun h68 => ?_)
              · refine zp_al0 (q := 81) dX12_commandHere_80 rfl ?_
                refine zr_bipush (q := 83) dX12_commandHere_81 rfl (z_in_of rfl) (by decide +kernel) ?_
                refine zf_callV1 (k517) (s_X12_skips_x H hp (by omega) (show zCh9 L p ≠ 99 by omega)) mtX12_skips wiX12_skips weX12_skips wlX12_187 (q := 86) dX12_commandHere_83 rfl rfl rfl rfl rfl rfl rfl (fun r S9 M9 h8 hP => ?_) (fun k S9 M9 hP => (z_no hP.1 rfl).elim)
                obtain ⟨rfl, rfl, h9⟩ := hP
                subst M9
                refine zr_if_eq (q := 98) (q2 := 89) dX12_commandHere_86 (by decide) rfl (fun h86 => ?_) (fun h86 => ?_)
                · refine zp_al0 (q := 99) dX12_commandHere_98 rfl ?_
                  refine zr_bipush (q := 101) dX12_commandHere_99 rfl (z_in_of rfl) (by decide +kernel) ?_
                  refine zf_callV1 (k517) (s_X12_skips_x H hp (by omega) (show zCh9 L p ≠ 114 by omega)) mtX12_skips wiX12_skips weX12_skips wlX12_187 (q := 104) dX12_commandHere_101 rfl rfl rfl rfl rfl rfl rfl (fun r S9 M9 h8 hP => ?_) (fun k S9 M9 hP => (z_no hP.1 rfl).elim)
                  obtain ⟨rfl, rfl, h9⟩ := hP
                  subst M9
                  refine zr_if_eq (q := 113) (q2 := 107) dX12_commandHere_104 (by decide) rfl (fun h104 => ?_) (fun h104 => ?_)
                  · refine zp_al0 (q := 114) dX12_commandHere_113 rfl ?_
                    refine zr_bipush (q := 116) dX12_commandHere_114 rfl (z_in_of rfl) (by decide +kernel) ?_
                    refine zf_callV1 (k517) (s_X12_skips H hp (by omega) (by omega) (by decide) (show zCh9 L p = 119 by omega)) mtX12_skips wiX12_skips weX12_skips wlX12_187 (q := 119) dX12_commandHere_116 rfl rfl rfl rfl rfl rfl rfl (fun r S9 M9 h8 hP => ?_) (fun k S9 M9 hP => (z_no hP.1 rfl).elim)
                    obtain ⟨rfl, rfl, t1⟩ := hP
                    have H1 := t1.h H
                    have p1 : M9 517 21 = p + 1 := t1.2.2.1.trans (by omega)
                    have k1 : M9 517 23 = K := (t1.2.1 23 (by decide)).trans hk
                    refine zr_if_eq (q := 131) (q2 := 122) dX12_commandHere_119 (by decide) rfl (fun h119 => ?_) (fun h119 => ?_)
                    · exact absurd h119 (by decide)
                    · refine zp_al0 (q := 123) dX12_commandHere_122 rfl ?_
                      refine zr_bipush (q := 125) dX12_commandHere_123 rfl (z_in_of rfl) (by decide +kernel) ?_
                      refine zf_callV1 (k517) (s_X12_skips H1 p1 (by omega) (by omega) (by decide) (show zCh9 L (p + 1) = 105 by omega)) mtX12_skips wiX12_skips weX12_skips wlX12_187 (q := 128) dX12_commandHere_125 rfl rfl rfl rfl rfl rfl rfl (fun r S9 M9 h8 hP => ?_) (fun k S9 M9 hP => (z_no hP.1 rfl).elim)
                      obtain ⟨rfl, rfl, t2⟩ := hP
                      have H2 := t2.h H1
                      have p2 : M9 517 21 = p + 2 := t2.2.2.1.trans (by omega)
                      have k2 : M9 517 23 = K := (t2.2.1 23 (by decide)).trans k1
                      refine zr_if_ne (q := 133) (q2 := 131) dX12_commandHere_128 (by decide) rfl (fun h128 => ?_) (fun h128 => ?_)
                      · refine zp_al0 (q := 134) dX12_commandHere_133 rfl ?_
                        refine zr_bipush (q := 136) dX12_commandHere_134 rfl (z_in_of rfl) (by decide +kernel) ?_
                        refine zf_callV1 (k517) (s_X12_skips_x H2 p2 (by omega) (show zCh9 L (p + 2) ≠ 110 by omega)) mtX12_skips wiX12_skips weX12_skips wlX12_187 (q := 139) dX12_commandHere_136 rfl rfl rfl rfl rfl rfl rfl (fun r S9 M9 h8 hP => ?_) (fun k S9 M9 hP => (z_no hP.1 rfl).elim)
                        obtain ⟨rfl, rfl, h9⟩ := hP
                        subst M9
                        refine zr_if_eq (q := 150) (q2 := 142) dX12_commandHere_139 (by decide) rfl (fun h139 => ?_) (fun h139 => ?_)
                        · refine zp_al0 (q := 151) dX12_commandHere_150 rfl ?_
                          refine zr_bipush (q := 153) dX12_commandHere_151 rfl (z_in_of rfl) (by decide +kernel) ?_
                          refine zf_callV1 (k517) (s_X12_skips H2 p2 (by omega) (by omega) (by decide) (show zCh9 L (p + 2) = 116 by omega)) mtX12_skips wiX12_skips weX12_skips wlX12_187 (q := 156) dX12_commandHere_153 rfl rfl rfl rfl rfl rfl rfl (fun r S9 M9 h8 hP => ?_) (fun k S9 M9 hP => (z_no hP.1 rfl).elim)
                          obtain ⟨rfl, rfl, t3⟩ := hP
                          have H3 := t3.h H2
                          have p3 : M9 517 21 = p + 3 := t3.2.2.1.trans (by omega)
                          have k3 : M9 517 23 = K := (t3.2.1 23 (by decide)).trans k2
                          refine zr_if_eq (q := 182) (q2 := 159) dX12_commandHere_156 (by decide) rfl (fun h156 => ?_) (fun h156 => ?_)
                          · exact absurd h156 (by decide)
                          · refine zp_al0 (q := 160) dX12_commandHere_159 rfl ?_
                            refine zr_iconst (q := 161) dX12_commandHere_160 rfl (z_in_of rfl) ?_
                            refine zr_ldcS (k := 29) (ci := _) (q := 163) (by decide) rfl rfl dX12_commandHere_161 rfl ?_
                            refine zf_callV2 (k517) (s_X12_isWord H3 (p := p + 3) p3 (by omega) (by omega) k3 (by omega) (by omega) zst_29 (w := [104, 100, 114, 97, 119]) hm) mtX12_isWord wiX12_isWord weX12_isWord wlX12_195 (q := 166) dX12_commandHere_163 rfl rfl rfl rfl rfl rfl rfl (fun r S9 M9 h8 hP => ?_) (fun k S9 M9 hP => (z_no hP.1 rfl).elim)
                            obtain ⟨rfl, rfl, t4, v4⟩ := hP
                            have H4 := t4.h H3
                            have p4 : M9 517 21 = zq1 (zCh9 L) p := t4.2.2.1.trans e1
                            have k4 : M9 517 23 = K := (t4.2.1 23 (by decide)).trans k3
                            refine zr_if_eq (q := 182) (q2 := 169) dX12_commandHere_166 (by decide) rfl (fun h166 => ?_) (fun h166 => ?_)
                            · exact absurd h166 (by decide)
                            · refine zp_al0 (q := 170) dX12_commandHere_169 rfl ?_
                              refine zp_il1 (q := 171) dX12_commandHere_170 rfl ?_
                              refine zr_iconst (q := 172) dX12_commandHere_171 rfl (z_in_of rfl) ?_
                              refine zf_callV2 (k517) (s_X12_figures H4 (p := zq1 (zCh9 L) p) p4 (by omega) (by omega) (by omega) (by omega) (by decide) c1) mtX12_figures wiX12_figures weX12_figures wlX12_199 (q := 175) dX12_commandHere_172 rfl rfl rfl rfl rfl rfl rfl (fun r S9 M9 h8 hP => ?_) (fun k S9 M9 hP => (z_no hP.1 rfl).elim)
                              obtain ⟨rfl, rfl, t5, v5⟩ := hP
                              have H5 := t5.h H4
                              have p5 : M9 517 21 = zq2 (zCh9 L) p := t5.2.2.1.trans f1
                              have k5 : M9 517 23 = K := (t5.2.1 23 (by decide)).trans k4
                              refine zr_if_eq (q := 182) (q2 := 178) dX12_commandHere_175 (by decide) rfl (fun h175 => ?_) (fun h175 => ?_)
                              · exact absurd h175 (by decide)
                              · refine zr_iconst (q := 179) dX12_commandHere_178 rfl (z_in_of rfl) ?_
                                refine zr_goto (q := 183) dX12_commandHere_179 (by decide) ?_
                                refine zr_ireturn dX12_commandHere_183 rfl (z_fit_z (by decide)) ?_
                                refine hy ⟨by omega, c1x, c2x, fun h => absurd (hw.symm.trans h) (by decide)⟩ _ (t1.t (t2.t (t3.t (t4.t t5 (c := 5 * K) (d := 5 * K + 5) (fun j hj => by omega)) (c := 5 * K) (d := 5 * K + 5) (fun j hj => by omega)) (c := 5 * K) (d := 5 * K + 5) (fun j hj => by omega)) (c := 5 * K) (d := 5 * K + 5) (fun j hj => by omega)) ((p5.trans f2).trans (zCe_3 (by omega) c1x c2x (by omega)).symm) ⟨?_, ?_, ?_, ?_⟩
                                · rw [hw, t5.2.2.2 (5 * K) (by omega)]
                                  exact v4
                                · intro _
                                  rw [d1]
                                  exact v5
                                · exact fun h => absurd d2 h
                                · exact fun h => absurd (hw.symm.trans h) (by decide)
                        · exact absurd rfl h139
                      · exact absurd (by decide) h128
                  · exact absurd rfl h104
                · exact absurd rfl h86
              · exact absurd rfl h68
            · exact absurd rfl h15
          · have c1x : ¬ zPo (zCh9 L) (zq1 (zCh9 L) p) (zD1 (zWw (zCh9 L) p)) := by rw [d1]; exact c1
            have hw : zWw (zCh9 L) p = 1 := by
              unfold zWw
              rw [if_neg (show ¬ zCh9 L p = 98 by omega), if_neg (show ¬ zCh9 L p = 115 by omega), if_neg (show ¬ zCh9 L p = 99 by omega), if_neg (show ¬ zCh9 L p = 114 by omega), if_pos (show zCh9 L p = 119 by omega), if_pos (show zCh9 L (p + 1) = 105 by omega), if_neg (show ¬ zCh9 L (p + 2) = 110 by omega), if_pos (show zCh9 L (p + 2) = 116 by omega)]
              rw [if_pos (show zMt9 (zCh9 L) [104, 100, 114, 97, 119] (p + 3) = 5 by omega)]
            have ha : zWa (zCh9 L) p = 3 + zMt9 (zCh9 L) [104, 100, 114, 97, 119] (p + 3) := by
              unfold zWa
              rw [if_neg (show ¬ zCh9 L p = 98 by omega), if_neg (show ¬ zCh9 L p = 115 by omega), if_neg (show ¬ zCh9 L p = 99 by omega), if_neg (show ¬ zCh9 L p = 114 by omega), if_pos (show zCh9 L p = 119 by omega), if_pos (show zCh9 L (p + 1) = 105 by omega), if_neg (show ¬ zCh9 L (p + 2) = 110 by omega), if_pos (show zCh9 L (p + 2) = 116 by omega)]
            have e1 : p + 3 + zMt9 (zCh9 L) [104, 100, 114, 97, 119] (p + 3) = zq1 (zCh9 L) p := by
              unfold zq1
              omega
            have l0 := zCh9_lt (L := L) (p := p) (by omega) H.2.2
            have l1 := zCh9_lt (L := L) (p := p + 1) (by omega) H.2.2
            have l2 := zCh9_lt (L := L) (p := p + 2) (by omega) H.2.2
            refine zr_iconst (q := 1) dX12_commandHere_0 rfl (z_in_of rfl) ?_
            refine zp_al0 (q := 2) dX12_commandHere_1 rfl ?_
            refine zf_getG (v := K) 23 (k517) (hk) rfl fdX12_176 (q := 5) dX12_commandHere_2 rfl rfl ?_
            refine zr_imul (q := 6) dX12_commandHere_5 rfl (fun hA hB => by unfold z_in at hA hB ⊢; omega) ?_
            refine zr_iconst (q := 7) dX12_commandHere_6 rfl (z_in_of rfl) ?_
            refine zr_iadd (q := 8) dX12_commandHere_7 rfl (fun hA hB => by unfold z_in at hA hB ⊢; omega) ?_
            refine zp_is1 (q := 9) dX12_commandHere_8 rfl rfl rfl ?_
            refine zp_al0 (q := 10) dX12_commandHere_9 rfl ?_
            refine zr_bipush (q := 12) dX12_commandHere_10 rfl (z_in_of rfl) (by decide +kernel) ?_
            refine zf_callV1 (k517) (s_X12_skips_x H hp (by omega) (show zCh9 L p ≠ 98 by omega)) mtX12_skips wiX12_skips weX12_skips wlX12_187 (q := 15) dX12_commandHere_12 rfl rfl rfl rfl rfl rfl rfl (fun r S9 M9 h8 hP => ?_) (fun k S9 M9 hP => (z_no hP.1 rfl).elim)
            obtain ⟨rfl, rfl, h9⟩ := hP
            subst M9
            refine zr_if_eq (q := 62) (q2 := 18) dX12_commandHere_15 (by decide) rfl (fun h15 => ?_) (fun h15 => ?_)
            · refine zp_al0 (q := 63) dX12_commandHere_62 rfl ?_
              refine zr_bipush (q := 65) dX12_commandHere_63 rfl (z_in_of rfl) (by decide +kernel) ?_
              refine zf_callV1 (k517) (s_X12_skips_x H hp (by omega) (show zCh9 L p ≠ 115 by omega)) mtX12_skips wiX12_skips weX12_skips wlX12_187 (q := 68) dX12_commandHere_65 rfl rfl rfl rfl rfl rfl rfl (fun r S9 M9 h8 hP => ?_) (fun k S9 M9 hP => (z_no hP.1 rfl).elim)
              obtain ⟨rfl, rfl, h9⟩ := hP
              subst M9
              refine zr_if_eq (q := 80) (q2 := 71) dX12_commandHere_68 (by decide) rfl (fun h68 => ?_) (fun h68 => ?_)
              · refine zp_al0 (q := 81) dX12_commandHere_80 rfl ?_
                refine zr_bipush (q := 83) dX12_commandHere_81 rfl (z_in_of rfl) (by decide +kernel) ?_
                refine zf_callV1 (k517) (s_X12_skips_x H hp (by omega) (show zCh9 L p ≠ 99 by omega)) mtX12_skips wiX12_skips weX12_skips wlX12_187 (q := 86) dX12_commandHere_83 rfl rfl rfl rfl rfl rfl rfl (fun r S9 M9 h8 hP => ?_) (fun k S9 M9 hP => (z_no hP.1 rfl).elim)
                obtain ⟨rfl, rfl, h9⟩ := hP
                subst M9
                refine zr_if_eq (q := 98) (q2 := 89) dX12_commandHere_86 (by decide) rfl (fun h86 => ?_) (fun h86 => ?_)
                · refine zp_al0 (q := 99) dX12_commandHere_98 rfl ?_
                  refine zr_bipush (q := 101) dX12_commandHere_99 rfl (z_in_of rfl) (by decide +kernel) ?_
                  refine zf_callV1 (k517) (s_X12_skips_x H hp (by omega) (show zCh9 L p ≠ 114 by omega)) mtX12_skips wiX12_skips weX12_skips wlX12_187 (q := 104) dX12_commandHere_101 rfl rfl rfl rfl rfl rfl rfl (fun r S9 M9 h8 hP => ?_) (fun k S9 M9 hP => (z_no hP.1 rfl).elim)
                  obtain ⟨rfl, rfl, h9⟩ := hP
                  subst M9
                  refine zr_if_eq (q := 113) (q2 := 107) dX12_commandHere_104 (by decide) rfl (fun h104 => ?_) (fun h104 => ?_)
                  · refine zp_al0 (q := 114) dX12_commandHere_113 rfl ?_
                    refine zr_bipush (q := 116) dX12_commandHere_114 rfl (z_in_of rfl) (by decide +kernel) ?_
                    refine zf_callV1 (k517) (s_X12_skips H hp (by omega) (by omega) (by decide) (show zCh9 L p = 119 by omega)) mtX12_skips wiX12_skips weX12_skips wlX12_187 (q := 119) dX12_commandHere_116 rfl rfl rfl rfl rfl rfl rfl (fun r S9 M9 h8 hP => ?_) (fun k S9 M9 hP => (z_no hP.1 rfl).elim)
                    obtain ⟨rfl, rfl, t1⟩ := hP
                    have H1 := t1.h H
                    have p1 : M9 517 21 = p + 1 := t1.2.2.1.trans (by omega)
                    have k1 : M9 517 23 = K := (t1.2.1 23 (by decide)).trans hk
                    refine zr_if_eq (q := 131) (q2 := 122) dX12_commandHere_119 (by decide) rfl (fun h119 => ?_) (fun h119 => ?_)
                    · exact absurd h119 (by decide)
                    · refine zp_al0 (q := 123) dX12_commandHere_122 rfl ?_
                      refine zr_bipush (q := 125) dX12_commandHere_123 rfl (z_in_of rfl) (by decide +kernel) ?_
                      refine zf_callV1 (k517) (s_X12_skips H1 p1 (by omega) (by omega) (by decide) (show zCh9 L (p + 1) = 105 by omega)) mtX12_skips wiX12_skips weX12_skips wlX12_187 (q := 128) dX12_commandHere_125 rfl rfl rfl rfl rfl rfl rfl (fun r S9 M9 h8 hP => ?_) (fun k S9 M9 hP => (z_no hP.1 rfl).elim)
                      obtain ⟨rfl, rfl, t2⟩ := hP
                      have H2 := t2.h H1
                      have p2 : M9 517 21 = p + 2 := t2.2.2.1.trans (by omega)
                      have k2 : M9 517 23 = K := (t2.2.1 23 (by decide)).trans k1
                      refine zr_if_ne (q := 133) (q2 := 131) dX12_commandHere_128 (by decide) rfl (fun h128 => ?_) (fun h128 => ?_)
                      · refine zp_al0 (q := 134) dX12_commandHere_133 rfl ?_
                        refine zr_bipush (q := 136) dX12_commandHere_134 rfl (z_in_of rfl) (by decide +kernel) ?_
                        refine zf_callV1 (k517) (s_X12_skips_x H2 p2 (by omega) (show zCh9 L (p + 2) ≠ 110 by omega)) mtX12_skips wiX12_skips weX12_skips wlX12_187 (q := 139) dX12_commandHere_136 rfl rfl rfl rfl rfl rfl rfl (fun r S9 M9 h8 hP => ?_) (fun k S9 M9 hP => (z_no hP.1 rfl).elim)
                        obtain ⟨rfl, rfl, h9⟩ := hP
                        subst M9
                        refine zr_if_eq (q := 150) (q2 := 142) dX12_commandHere_139 (by decide) rfl (fun h139 => ?_) (fun h139 => ?_)
                        · refine zp_al0 (q := 151) dX12_commandHere_150 rfl ?_
                          refine zr_bipush (q := 153) dX12_commandHere_151 rfl (z_in_of rfl) (by decide +kernel) ?_
                          refine zf_callV1 (k517) (s_X12_skips H2 p2 (by omega) (by omega) (by decide) (show zCh9 L (p + 2) = 116 by omega)) mtX12_skips wiX12_skips weX12_skips wlX12_187 (q := 156) dX12_commandHere_153 rfl rfl rfl rfl rfl rfl rfl (fun r S9 M9 h8 hP => ?_) (fun k S9 M9 hP => (z_no hP.1 rfl).elim)
                          obtain ⟨rfl, rfl, t3⟩ := hP
                          have H3 := t3.h H2
                          have p3 : M9 517 21 = p + 3 := t3.2.2.1.trans (by omega)
                          have k3 : M9 517 23 = K := (t3.2.1 23 (by decide)).trans k2
                          refine zr_if_eq (q := 182) (q2 := 159) dX12_commandHere_156 (by decide) rfl (fun h156 => ?_) (fun h156 => ?_)
                          · exact absurd h156 (by decide)
                          · refine zp_al0 (q := 160) dX12_commandHere_159 rfl ?_
                            refine zr_iconst (q := 161) dX12_commandHere_160 rfl (z_in_of rfl) ?_
                            refine zr_ldcS (k := 29) (ci := _) (q := 163) (by decide) rfl rfl dX12_commandHere_161 rfl ?_
                            refine zf_callV2 (k517) (s_X12_isWord H3 (p := p + 3) p3 (by omega) (by omega) k3 (by omega) (by omega) zst_29 (w := [104, 100, 114, 97, 119]) hm) mtX12_isWord wiX12_isWord weX12_isWord wlX12_195 (q := 166) dX12_commandHere_163 rfl rfl rfl rfl rfl rfl rfl (fun r S9 M9 h8 hP => ?_) (fun k S9 M9 hP => (z_no hP.1 rfl).elim)
                            obtain ⟨rfl, rfl, t4, v4⟩ := hP
                            have H4 := t4.h H3
                            have p4 : M9 517 21 = zq1 (zCh9 L) p := t4.2.2.1.trans e1
                            have k4 : M9 517 23 = K := (t4.2.1 23 (by decide)).trans k3
                            refine zr_if_eq (q := 182) (q2 := 169) dX12_commandHere_166 (by decide) rfl (fun h166 => ?_) (fun h166 => ?_)
                            · exact absurd h166 (by decide)
                            · refine zp_al0 (q := 170) dX12_commandHere_169 rfl ?_
                              refine zp_il1 (q := 171) dX12_commandHere_170 rfl ?_
                              refine zr_iconst (q := 172) dX12_commandHere_171 rfl (z_in_of rfl) ?_
                              refine zf_callV2 (k517) (s_X12_figures_x H4 (p := zq1 (zCh9 L) p) p4 (by omega) (by omega) (by omega) (by omega) (by decide) c1) mtX12_figures wiX12_figures weX12_figures wlX12_199 (q := 175) dX12_commandHere_172 rfl rfl rfl rfl rfl rfl rfl (fun r S9 M9 h8 hP => ?_) (fun k S9 M9 hP => (z_no hP.1 rfl).elim)
                              obtain ⟨rfl, rfl, t5⟩ := hP
                              have p5 : M9 517 21 = zq2 (zCh9 L) p := t5.2.2.1.trans f1
                              refine zr_if_eq (q := 182) (q2 := 178) dX12_commandHere_175 (by decide) rfl (fun h175 => ?_) (fun h175 => ?_)
                              · refine zr_iconst (q := 183) dX12_commandHere_182 rfl (z_in_of rfl) ?_
                                refine zr_ireturn dX12_commandHere_183 rfl (z_fit_z (by decide)) ?_
                                exact hn (fun ho => c1x ho.2.1) _ (t1.t (t2.t (t3.t (t4.t t5 (c := 5 * K) (d := 5 * K + 5) (fun j hj => by omega)) (c := 5 * K) (d := 5 * K + 5) (fun j hj => by omega)) (c := 5 * K) (d := 5 * K + 5) (fun j hj => by omega)) (c := 5 * K) (d := 5 * K + 5) (fun j hj => by omega)) (p5.trans (zCe_1 (by omega) c1x).symm)
                              · exact absurd rfl h175
                        · exact absurd rfl h139
                      · exact absurd (by decide) h128
                  · exact absurd rfl h104
                · exact absurd rfl h86
              · exact absurd rfl h68
            · exact absurd rfl h15
        · have hw : zWw (zCh9 L) p = -1 := by
            unfold zWw
            rw [if_neg (show ¬ zCh9 L p = 98 by omega), if_neg (show ¬ zCh9 L p = 115 by omega), if_neg (show ¬ zCh9 L p = 99 by omega), if_neg (show ¬ zCh9 L p = 114 by omega), if_pos (show zCh9 L p = 119 by omega), if_pos (show zCh9 L (p + 1) = 105 by omega), if_neg (show ¬ zCh9 L (p + 2) = 110 by omega), if_pos (show zCh9 L (p + 2) = 116 by omega)]
            rw [if_neg (show ¬ zMt9 (zCh9 L) [104, 100, 114, 97, 119] (p + 3) = 5 by omega)]
          have ha : zWa (zCh9 L) p = 3 + zMt9 (zCh9 L) [104, 100, 114, 97, 119] (p + 3) := by
            unfold zWa
            rw [if_neg (show ¬ zCh9 L p = 98 by omega), if_neg (show ¬ zCh9 L p = 115 by omega), if_neg (show ¬ zCh9 L p = 99 by omega), if_neg (show ¬ zCh9 L p = 114 by omega), if_pos (show zCh9 L p = 119 by omega), if_pos (show zCh9 L (p + 1) = 105 by omega), if_neg (show ¬ zCh9 L (p + 2) = 110 by omega), if_pos (show zCh9 L (p + 2) = 116 by omega)]
          have e1 : p + 3 + zMt9 (zCh9 L) [104, 100, 114, 97, 119] (p + 3) = zq1 (zCh9 L) p := by
            unfold zq1
            omega
          have l0 := zCh9_lt (L := L) (p := p) (by omega) H.2.2
          have l1 := zCh9_lt (L := L) (p := p + 1) (by omega) H.2.2
          have l2 := zCh9_lt (L := L) (p := p + 2) (by omega) H.2.2
          refine zr_iconst (q := 1) dX12_commandHere_0 rfl (z_in_of rfl) ?_
          refine zp_al0 (q := 2) dX12_commandHere_1 rfl ?_
          refine zf_getG (v := K) 23 (k517) (hk) rfl fdX12_176 (q := 5) dX12_commandHere_2 rfl rfl ?_
          refine zr_imul (q := 6) dX12_commandHere_5 rfl (fun hA hB => by unfold z_in at hA hB ⊢; omega) ?_
          refine zr_iconst (q := 7) dX12_commandHere_6 rfl (z_in_of rfl) ?_
          refine zr_iadd (q := 8) dX12_commandHere_7 rfl (fun hA hB => by unfold z_in at hA hB ⊢; omega) ?_
          refine zp_is1 (q := 9) dX12_commandHere_8 rfl rfl rfl ?_
          refine zp_al0 (q := 10) dX12_commandHere_9 rfl ?_
          refine zr_bipush (q := 12) dX12_commandHere_10 rfl (z_in_of rfl) (by decide +kernel) ?_
          refine zf_callV1 (k517) (s_X12_skips_x H hp (by omega) (show zCh9 L p ≠ 98 by omega)) mtX12_skips wiX12_skips weX12_skips wlX12_187 (q := 15) dX12_commandHere_12 rfl rfl rfl rfl rfl rfl rfl (fun r S9 M9 h8 hP => ?_) (fun k S9 M9 hP => (z_no hP.1 rfl).elim)
          obtain ⟨rfl, rfl, h9⟩ := hP
          subst M9
          refine zr_if_eq (q := 62) (q2 := 18) dX12_commandHere_15 (by decide) rfl (fun h15 => ?_) (fun h15 => ?_)
          · refine zp_al0 (q := 63) dX12_commandHere_62 rfl ?_
            refine zr_bipush (q := 65) dX12_commandHere_63 rfl (z_in_of rfl) (by decide +kernel) ?_
            refine zf_callV1 (k517) (s_X12_skips_x H hp (by omega) (show zCh9 L p ≠ 115 by omega)) mtX12_skips wiX12_skips weX12_skips wlX12_187 (q := 68) dX12_commandHere_65 rfl rfl rfl rfl rfl rfl rfl (fun r S9 M9 h8 hP => ?_) (fun k S9 M9 hP => (z_no hP.1 rfl).elim)
            obtain ⟨rfl, rfl, h9⟩ := hP
            subst M9
            refine zr_if_eq (q := 80) (q2 := 71) dX12_commandHere_68 (by decide) rfl (fun h68 => ?_) (fun h68 => ?_)
            · refine zp_al0 (q := 81) dX12_commandHere_80 rfl ?_
              refine zr_bipush (q := 83) dX12_commandHere_81 rfl (z_in_of rfl) (by decide +kernel) ?_
              refine zf_callV1 (k517) (s_X12_skips_x H hp (by omega) (show zCh9 L p ≠ 99 by omega)) mtX12_skips wiX12_skips weX12_skips wlX12_187 (q := 86) dX12_commandHere_83 rfl rfl rfl rfl rfl rfl rfl (fun r S9 M9 h8 hP => ?_) (fun k S9 M9 hP => (z_no hP.1 rfl).elim)
              obtain ⟨rfl, rfl, h9⟩ := hP
              subst M9
              refine zr_if_eq (q := 98) (q2 := 89) dX12_commandHere_86 (by decide) rfl (fun h86 => ?_) (fun h86 => ?_)
              · refine zp_al0 (q := 99) dX12_commandHere_98 rfl ?_
                refine zr_bipush (q := 101) dX12_commandHere_99 rfl (z_in_of rfl) (by decide +kernel) ?_
                refine zf_callV1 (k517) (s_X12_skips_x H hp (by omega) (show zCh9 L p ≠ 114 by omega)) mtX12_skips wiX12_skips weX12_skips wlX12_187 (q := 104) dX12_commandHere_101 rfl rfl rfl rfl rfl rfl rfl (fun r S9 M9 h8 hP => ?_) (fun k S9 M9 hP => (z_no hP.1 rfl).elim)
                obtain ⟨rfl, rfl, h9⟩ := hP
                subst M9
                refine zr_if_eq (q := 113) (q2 := 107) dX12_commandHere_104 (by decide) rfl (fun h104 => ?_) (fun h104 => ?_)
                · refine zp_al0 (q := 114) dX12_commandHere_113 rfl ?_
                  refine zr_bipush (q := 116) dX12_commandHere_114 rfl (z_in_of rfl) (by decide +kernel) ?_
                  refine zf_callV1 (k517) (s_X12_skips H hp (by omega) (by omega) (by decide) (show zCh9 L p = 119 by omega)) mtX12_skips wiX12_skips weX12_skips wlX12_187 (q := 119) dX12_commandHere_116 rfl rfl rfl rfl rfl rfl rfl (fun r S9 M9 h8 hP => ?_) (fun k S9 M9 hP => (z_no hP.1 rfl).elim)
                  obtain ⟨rfl, rfl, t1⟩ := hP
                  have H1 := t1.h H
                  have p1 : M9 517 21 = p + 1 := t1.2.2.1.trans (by omega)
                  have k1 : M9 517 23 = K := (t1.2.1 23 (by decide)).trans hk
                  refine zr_if_eq (q := 131) (q2 := 122) dX12_commandHere_119 (by decide) rfl (fun h119 => ?_) (fun h119 => ?_)
                  · exact absurd h119 (by decide)
                  · refine zp_al0 (q := 123) dX12_commandHere_122 rfl ?_
                    refine zr_bipush (q := 125) dX12_commandHere_123 rfl (z_in_of rfl) (by decide +kernel) ?_
                    refine zf_callV1 (k517) (s_X12_skips H1 p1 (by omega) (by omega) (by decide) (show zCh9 L (p + 1) = 105 by omega)) mtX12_skips wiX12_skips weX12_skips wlX12_187 (q := 128) dX12_commandHere_125 rfl rfl rfl rfl rfl rfl rfl (fun r S9 M9 h8 hP => ?_) (fun k S9 M9 hP => (z_no hP.1 rfl).elim)
                    obtain ⟨rfl, rfl, t2⟩ := hP
                    have H2 := t2.h H1
                    have p2 : M9 517 21 = p + 2 := t2.2.2.1.trans (by omega)
                    have k2 : M9 517 23 = K := (t2.2.1 23 (by decide)).trans k1
                    refine zr_if_ne (q := 133) (q2 := 131) dX12_commandHere_128 (by decide) rfl (fun h128 => ?_) (fun h128 => ?_)
                    · refine zp_al0 (q := 134) dX12_commandHere_133 rfl ?_
                      refine zr_bipush (q := 136) dX12_commandHere_134 rfl (z_in_of rfl) (by decide +kernel) ?_
                      refine zf_callV1 (k517) (s_X12_skips_x H2 p2 (by omega) (show zCh9 L (p + 2) ≠ 110 by omega)) mtX12_skips wiX12_skips weX12_skips wlX12_187 (q := 139) dX12_commandHere_136 rfl rfl rfl rfl rfl rfl rfl (fun r S9 M9 h8 hP => ?_) (fun k S9 M9 hP => (z_no hP.1 rfl).elim)
                      obtain ⟨rfl, rfl, h9⟩ := hP
                      subst M9
                      refine zr_if_eq (q := 150) (q2 := 142) dX12_commandHere_139 (by decide) rfl (fun h139 => ?_) (fun h139 => ?_)
                      · refine zp_al0 (q := 151) dX12_commandHere_150 rfl ?_
                        refine zr_bipush (q := 153) dX12_commandHere_151 rfl (z_in_of rfl) (by decide +kernel) ?_
                        refine zf_callV1 (k517) (s_X12_skips H2 p2 (by omega) (by omega) (by decide) (show zCh9 L (p + 2) = 116 by omega)) mtX12_skips wiX12_skips weX12_skips wlX12_187 (q := 156) dX12_commandHere_153 rfl rfl rfl rfl rfl rfl rfl (fun r S9 M9 h8 hP => ?_) (fun k S9 M9 hP => (z_no hP.1 rfl).elim)
                        obtain ⟨rfl, rfl, t3⟩ := hP
                        have H3 := t3.h H2
                        have p3 : M9 517 21 = p + 3 := t3.2.2.1.trans (by omega)
                        have k3 : M9 517 23 = K := (t3.2.1 23 (by decide)).trans k2
                        refine zr_if_eq (q := 182) (q2 := 159) dX12_commandHere_156 (by decide) rfl (fun h156 => ?_) (fun h156 => ?_)
                        · exact absurd h156 (by decide)
                        · refine zp_al0 (q := 160) dX12_commandHere_159 rfl ?_
                          refine zr_iconst (q := 161) dX12_commandHere_160 rfl (z_in_of rfl) ?_
                          refine zr_ldcS (k := 29) (ci := _) (q := 163) (by decide) rfl rfl dX12_commandHere_161 rfl ?_
                          refine zf_callV2 (k517) (s_X12_isWord_x H3 (p := p + 3) p3 (by omega) (by omega) k3 (by omega) (by omega) zst_29 (w := [104, 100, 114, 97, 119]) hm) mtX12_isWord wiX12_isWord weX12_isWord wlX12_195 (q := 166) dX12_commandHere_163 rfl rfl rfl rfl rfl rfl rfl (fun r S9 M9 h8 hP => ?_) (fun k S9 M9 hP => (z_no hP.1 rfl).elim)
                          obtain ⟨rfl, rfl, t4⟩ := hP
                          have p4 : M9 517 21 = zq1 (zCh9 L) p := t4.2.2.1.trans e1
                          refine zr_if_eq (q := 182) (q2 := 169) dX12_commandHere_166 (by decide) rfl (fun h166 => ?_) (fun h166 => ?_)
                          · refine zr_iconst (q := 183) dX12_commandHere_182 rfl (z_in_of rfl) ?_
                            refine zr_ireturn dX12_commandHere_183 rfl (z_fit_z (by decide)) ?_
                            exact hn (fun ho => by have := ho.1; omega) _ (t1.t (t2.t (t3.t t4 (c := 5 * K) (d := 5 * K + 5) (fun j hj => by omega)) (c := 5 * K) (d := 5 * K + 5) (fun j hj => by omega)) (c := 5 * K) (d := 5 * K + 5) (fun j hj => by omega)) (p4.trans (zCe_w (by omega)).symm)
                          · exact absurd rfl h166
                      · exact absurd rfl h139
                    · exact absurd (by decide) h128
                · exact absurd rfl h104
              · exact absurd rfl h86
            · exact absurd rfl h68
          · exact absurd rfl h15
      have hw : zWw (zCh9 L) p = -1 := by
        unfold zWw
        rw [if_neg (show ¬ zCh9 L p = 98 by omega), if_neg (show ¬ zCh9 L p = 115 by omega), if_neg (show ¬ zCh9 L p = 99 by omega), if_neg (show ¬ zCh9 L p = 114 by omega), if_pos (show zCh9 L p = 119 by omega), if_pos (show zCh9 L (p + 1) = 105 by omega), if_neg (show ¬ zCh9 L (p + 2) = 110 by omega), if_neg (show ¬ zCh9 L (p + 2) = 116 by omega)]
      have ha : zWa (zCh9 L) p = 2 := by
        unfold zWa
        rw [if_neg (show ¬ zCh9 L p = 98 by omega), if_neg (show ¬ zCh9 L p = 115 by omega), if_neg (show ¬ zCh9 L p = 99 by omega), if_neg (show ¬ zCh9 L p = 114 by omega), if_pos (show zCh9 L p = 119 by omega), if_pos (show zCh9 L (p + 1) = 105 by omega), if_neg (show ¬ zCh9 L (p + 2) = 110 by omega), if_neg (show ¬ zCh9 L (p + 2) = 116 by omega)]
      have e1 : p + 2 = zq1 (zCh9 L) p := by
        unfold zq1
        omega
      have l0 := zCh9_lt (L := L) (p := p) (by omega) H.2.2
      have l1 := zCh9_lt (L := L) (p := p + 1) (by omega) H.2.2
      refine zr_iconst (q := 1) dX12_commandHere_0 rfl (z_in_of rfl) ?_
      refine zp_al0 (q := 2) dX12_commandHere_1 rfl ?_
      refine zf_getG (v := K) 23 (k517) (hk) rfl fdX12_176 (q := 5) dX12_commandHere_2 rfl rfl ?_
      refine zr_imul (q := 6) dX12_commandHere_5 rfl (fun hA hB => by unfold z_in at hA hB ⊢; omega) ?_
      refine zr_iconst (q := 7) dX12_commandHere_6 rfl (z_in_of rfl) ?_
      refine zr_iadd (q := 8) dX12_commandHere_7 rfl (fun hA hB => by unfold z_in at hA hB ⊢; omega) ?_
      refine zp_is1 (q := 9) dX12_commandHere_8 rfl rfl rfl ?_
      refine zp_al0 (q := 10) dX12_commandHere_9 rfl ?_
      refine zr_bipush (q := 12) dX12_commandHere_10 rfl (z_in_of rfl) (by decide +kernel) ?_
      refine zf_callV1 (k517) (s_X12_skips_x H hp (by omega) (show zCh9 L p ≠ 98 by omega)) mtX12_skips wiX12_skips weX12_skips wlX12_187 (q := 15) dX12_commandHere_12 rfl rfl rfl rfl rfl rfl rfl (fun r S9 M9 h8 hP => ?_) (fun k S9 M9 hP => (z_no hP.1 rfl).elim)
      obtain ⟨rfl, rfl, h9⟩ := hP
      subst M9
      refine zr_if_eq (q := 62) (q2 := 18) dX12_commandHere_15 (by decide) rfl (fun h15 => ?_) (fun h15 => ?_)
      · refine zp_al0 (q := 63) dX12_commandHere_62 rfl ?_
        refine zr_bipush (q := 65) dX12_commandHere_63 rfl (z_in_of rfl) (by decide +kernel) ?_
        refine zf_callV1 (k517) (s_X12_skips_x H hp (by omega) (show zCh9 L p ≠ 115 by omega)) mtX12_skips wiX12_skips weX12_skips wlX12_187 (q := 68) dX12_commandHere_65 rfl rfl rfl rfl rfl rfl rfl (fun r S9 M9 h8 hP => ?_) (fun k S9 M9 hP => (z_no hP.1 rfl).elim)
        obtain ⟨rfl, rfl, h9⟩ := hP
        subst M9
        refine zr_if_eq (q := 80) (q2 := 71) dX12_commandHere_68 (by decide) rfl (fun h68 => ?_) (fun h68 => ?_)
        · refine zp_al0 (q := 81) dX12_commandHere_80 rfl ?_
          refine zr_bipush (q := 83) dX12_commandHere_81 rfl (z_in_of rfl) (by decide +kernel) ?_
          refine zf_callV1 (k517) (s_X12_skips_x H hp (by omega) (show zCh9 L p ≠ 99 by omega)) mtX12_skips wiX12_skips weX12_skips wlX12_187 (q := 86) dX12_commandHere_83 rfl rfl rfl rfl rfl rfl rfl (fun r S9 M9 h8 hP => ?_) (fun k S9 M9 hP => (z_no hP.1 rfl).elim)
          obtain ⟨rfl, rfl, h9⟩ := hP
          subst M9
          refine zr_if_eq (q := 98) (q2 := 89) dX12_commandHere_86 (by decide) rfl (fun h86 => ?_) (fun h86 => ?_)
          · refine zp_al0 (q := 99) dX12_commandHere_98 rfl ?_
            refine zr_bipush (q := 101) dX12_commandHere_99 rfl (z_in_of rfl) (by decide +kernel) ?_
            refine zf_callV1 (k517) (s_X12_skips_x H hp (by omega) (show zCh9 L p ≠ 114 by omega)) mtX12_skips wiX12_skips weX12_skips wlX12_187 (q := 104) dX12_commandHere_101 rfl rfl rfl rfl rfl rfl rfl (fun r S9 M9 h8 hP => ?_) (fun k S9 M9 hP => (z_no hP.1 rfl).elim)
            obtain ⟨rfl, rfl, h9⟩ := hP
            subst M9
            refine zr_if_eq (q := 113) (q2 := 107) dX12_commandHere_104 (by decide) rfl (fun h104 => ?_) (fun h104 => ?_)
            · refine zp_al0 (q := 114) dX12_commandHere_113 rfl ?_
              refine zr_bipush (q := 116) dX12_commandHere_114 rfl (z_in_of rfl) (by decide +kernel) ?_
              refine zf_callV1 (k517) (s_X12_skips H hp (by omega) (by omega) (by decide) (show zCh9 L p = 119 by omega)) mtX12_skips wiX12_skips weX12_skips wlX12_187 (q := 119) dX12_commandHere_116 rfl rfl rfl rfl rfl rfl rfl (fun r S9 M9 h8 hP => ?_) (fun k S9 M9 hP => (z_no hP.1 rfl).elim)
              obtain ⟨rfl, rfl, t1⟩ := hP
              have H1 := t1.h H
              have p1 : M9 517 21 = p + 1 := t1.2.2.1.trans (by omega)
              have k1 : M9 517 23 = K := (t1.2.1 23 (by decide)).trans hk
              refine zr_if_eq (q := 131) (q2 := 122) dX12_commandHere_119 (by decide) rfl (fun h119 => ?_) (fun h119 => ?_)
              · exact absurd h119 (by decide)
              · refine zp_al0 (q := 123) dX12_commandHere_122 rfl ?_
                refine zr_bipush (q := 125) dX12_commandHere_123 rfl (z_in_of rfl) (by decide +kernel) ?_
                refine zf_callV1 (k517) (s_X12_skips H1 p1 (by omega) (by omega) (by decide) (show zCh9 L (p + 1) = 105 by omega)) mtX12_skips wiX12_skips weX12_skips wlX12_187 (q := 128) dX12_commandHere_125 rfl rfl rfl rfl rfl rfl rfl (fun r S9 M9 h8 hP => ?_) (fun k S9 M9 hP => (z_no hP.1 rfl).elim)
                obtain ⟨rfl, rfl, t2⟩ := hP
                have H2 := t2.h H1
                have p2 : M9 517 21 = p + 2 := t2.2.2.1.trans (by omega)
                have k2 : M9 517 23 = K := (t2.2.1 23 (by decide)).trans k1
                refine zr_if_ne (q := 133) (q2 := 131) dX12_commandHere_128 (by decide) rfl (fun h128 => ?_) (fun h128 => ?_)
                · refine zp_al0 (q := 134) dX12_commandHere_133 rfl ?_
                  refine zr_bipush (q := 136) dX12_commandHere_134 rfl (z_in_of rfl) (by decide +kernel) ?_
                  refine zf_callV1 (k517) (s_X12_skips_x H2 p2 (by omega) (show zCh9 L (p + 2) ≠ 110 by omega)) mtX12_skips wiX12_skips weX12_skips wlX12_187 (q := 139) dX12_commandHere_136 rfl rfl rfl rfl rfl rfl rfl (fun r S9 M9 h8 hP => ?_) (fun k S9 M9 hP => (z_no hP.1 rfl).elim)
                  obtain ⟨rfl, rfl, h9⟩ := hP
                  subst M9
                  refine zr_if_eq (q := 150) (q2 := 142) dX12_commandHere_139 (by decide) rfl (fun h139 => ?_) (fun h139 => ?_)
                  · refine zp_al0 (q := 151) dX12_commandHere_150 rfl ?_
                    refine zr_bipush (q := 153) dX12_commandHere_151 rfl (z_in_of rfl) (by decide +kernel) ?_
                    refine zf_callV1 (k517) (s_X12_skips_x H2 p2 (by omega) (show zCh9 L (p + 2) ≠ 116 by omega)) mtX12_skips wiX12_skips weX12_skips wlX12_187 (q := 156) dX12_commandHere_153 rfl rfl rfl rfl rfl rfl rfl (fun r S9 M9 h8 hP => ?_) (fun k S9 M9 hP => (z_no hP.1 rfl).elim)
                    obtain ⟨rfl, rfl, h9⟩ := hP
                    subst M9
                    refine zr_if_eq (q := 182) (q2 := 159) dX12_commandHere_156 (by decide) rfl (fun h156 => ?_) (fun h156 => ?_)
                    · refine zr_iconst (q := 183) dX12_commandHere_182 rfl (z_in_of rfl) ?_
                      refine zr_ireturn dX12_commandHere_183 rfl (z_fit_z (by decide)) ?_
                      exact hn (fun ho => by have := ho.1; omega) _ (t1.t t2 (c := 5 * K) (d := 5 * K + 5) (fun j hj => by omega)) ((p2.trans e1).trans (zCe_w (by omega)).symm)
                    · exact absurd rfl h156
                  · exact absurd rfl h139
                · exact absurd (by decide) h128
            · exact absurd rfl h104
          · exact absurd rfl h86
        · exact absurd rfl h68
      · exact absurd rfl h15
    have hw : zWw (zCh9 L) p = -1 := by
      unfold zWw
      rw [if_neg (show ¬ zCh9 L p = 98 by omega), if_neg (show ¬ zCh9 L p = 115 by omega), if_neg (show ¬ zCh9 L p = 99 by omega), if_neg (show ¬ zCh9 L p = 114 by omega), if_pos (show zCh9 L p = 119 by omega), if_neg (show ¬ zCh9 L (p + 1) = 105 by omega)]
    have ha : zWa (zCh9 L) p = 1 := by
      unfold zWa
      rw [if_neg (show ¬ zCh9 L p = 98 by omega), if_neg (show ¬ zCh9 L p = 115 by omega), if_neg (show ¬ zCh9 L p = 99 by omega), if_neg (show ¬ zCh9 L p = 114 by omega), if_pos (show zCh9 L p = 119 by omega), if_neg (show ¬ zCh9 L (p + 1) = 105 by omega)]
    have e1 : p + 1 = zq1 (zCh9 L) p := by
      unfold zq1
      omega
    have l0 := zCh9_lt (L := L) (p := p) (by omega) H.2.2
    refine zr_iconst (q := 1) dX12_commandHere_0 rfl (z_in_of rfl) ?_
    refine zp_al0 (q := 2) dX12_commandHere_1 rfl ?_
    refine zf_getG (v := K) 23 (k517) (hk) rfl fdX12_176 (q := 5) dX12_commandHere_2 rfl rfl ?_
    refine zr_imul (q := 6) dX12_commandHere_5 rfl (fun hA hB => by unfold z_in at hA hB ⊢; omega) ?_
    refine zr_iconst (q := 7) dX12_commandHere_6 rfl (z_in_of rfl) ?_
    refine zr_iadd (q := 8) dX12_commandHere_7 rfl (fun hA hB => by unfold z_in at hA hB ⊢; omega) ?_
    refine zp_is1 (q := 9) dX12_commandHere_8 rfl rfl rfl ?_
    refine zp_al0 (q := 10) dX12_commandHere_9 rfl ?_
    refine zr_bipush (q := 12) dX12_commandHere_10 rfl (z_in_of rfl) (by decide +kernel) ?_
    refine zf_callV1 (k517) (s_X12_skips_x H hp (by omega) (show zCh9 L p ≠ 98 by omega)) mtX12_skips wiX12_skips weX12_skips wlX12_187 (q := 15) dX12_commandHere_12 rfl rfl rfl rfl rfl rfl rfl (fun r S9 M9 h8 hP => ?_) (fun k S9 M9 hP => (z_no hP.1 rfl).elim)
    obtain ⟨rfl, rfl, h9⟩ := hP
    subst M9
    refine zr_if_eq (q := 62) (q2 := 18) dX12_commandHere_15 (by decide) rfl (fun h15 => ?_) (fun h15 => ?_)
    · refine zp_al0 (q := 63) dX12_commandHere_62 rfl ?_
      refine zr_bipush (q := 65) dX12_commandHere_63 rfl (z_in_of rfl) (by decide +kernel) ?_
      refine zf_callV1 (k517) (s_X12_skips_x H hp (by omega) (show zCh9 L p ≠ 115 by omega)) mtX12_skips wiX12_skips weX12_skips wlX12_187 (q := 68) dX12_commandHere_65 rfl rfl rfl rfl rfl rfl rfl (fun r S9 M9 h8 hP => ?_) (fun k S9 M9 hP => (z_no hP.1 rfl).elim)
      obtain ⟨rfl, rfl, h9⟩ := hP
      subst M9
      refine zr_if_eq (q := 80) (q2 := 71) dX12_commandHere_68 (by decide) rfl (fun h68 => ?_) (fun h68 => ?_)
      · refine zp_al0 (q := 81) dX12_commandHere_80 rfl ?_
        refine zr_bipush (q := 83) dX12_commandHere_81 rfl (z_in_of rfl) (by decide +kernel) ?_
        refine zf_callV1 (k517) (s_X12_skips_x H hp (by omega) (show zCh9 L p ≠ 99 by omega)) mtX12_skips wiX12_skips weX12_skips wlX12_187 (q := 86) dX12_commandHere_83 rfl rfl rfl rfl rfl rfl rfl (fun r S9 M9 h8 hP => ?_) (fun k S9 M9 hP => (z_no hP.1 rfl).elim)
        obtain ⟨rfl, rfl, h9⟩ := hP
        subst M9
        refine zr_if_eq (q := 98) (q2 := 89) dX12_commandHere_86 (by decide) rfl (fun h86 => ?_) (fun h86 => ?_)
        · refine zp_al0 (q := 99) dX12_commandHere_98 rfl ?_
          refine zr_bipush (q := 101) dX12_commandHere_99 rfl (z_in_of rfl) (by decide +kernel) ?_
          refine zf_callV1 (k517) (s_X12_skips_x H hp (by omega) (show zCh9 L p ≠ 114 by omega)) mtX12_skips wiX12_skips weX12_skips wlX12_187 (q := 104) dX12_commandHere_101 rfl rfl rfl rfl rfl rfl rfl (fun r S9 M9 h8 hP => ?_) (fun k S9 M9 hP => (z_no hP.1 rfl).elim)
          obtain ⟨rfl, rfl, h9⟩ := hP
          subst M9
          refine zr_if_eq (q := 113) (q2 := 107) dX12_commandHere_104 (by decide) rfl (fun h104 => ?_) (fun h104 => ?_)
          · refine zp_al0 (q := 114) dX12_commandHere_113 rfl ?_
            refine zr_bipush (q := 116) dX12_commandHere_114 rfl (z_in_of rfl) (by decide +kernel) ?_
            refine zf_callV1 (k517) (s_X12_skips H hp (by omega) (by omega) (by decide) (show zCh9 L p = 119 by omega)) mtX12_skips wiX12_skips weX12_skips wlX12_187 (q := 119) dX12_commandHere_116 rfl rfl rfl rfl rfl rfl rfl (fun r S9 M9 h8 hP => ?_) (fun k S9 M9 hP => (z_no hP.1 rfl).elim)
            obtain ⟨rfl, rfl, t1⟩ := hP
            have H1 := t1.h H
            have p1 : M9 517 21 = p + 1 := t1.2.2.1.trans (by omega)
            have k1 : M9 517 23 = K := (t1.2.1 23 (by decide)).trans hk
            refine zr_if_eq (q := 131) (q2 := 122) dX12_commandHere_119 (by decide) rfl (fun h119 => ?_) (fun h119 => ?_)
            · exact absurd h119 (by decide)
            · refine zp_al0 (q := 123) dX12_commandHere_122 rfl ?_
              refine zr_bipush (q := 125) dX12_commandHere_123 rfl (z_in_of rfl) (by decide +kernel) ?_
              refine zf_callV1 (k517) (s_X12_skips_x H1 p1 (by omega) (show zCh9 L (p + 1) ≠ 105 by omega)) mtX12_skips wiX12_skips weX12_skips wlX12_187 (q := 128) dX12_commandHere_125 rfl rfl rfl rfl rfl rfl rfl (fun r S9 M9 h8 hP => ?_) (fun k S9 M9 hP => (z_no hP.1 rfl).elim)
              obtain ⟨rfl, rfl, h9⟩ := hP
              subst M9
              refine zr_if_ne (q := 133) (q2 := 131) dX12_commandHere_128 (by decide) rfl (fun h128 => ?_) (fun h128 => ?_)
              · exact absurd rfl h128
              · refine zr_iconst (q := 132) dX12_commandHere_131 rfl (z_in_of rfl) ?_
                refine zr_ireturn dX12_commandHere_132 rfl (z_fit_z (by decide)) ?_
                exact hn (fun ho => by have := ho.1; omega) _ (t1.w (c := 5 * K) (d := 5 * K + 5) (fun j hj => by omega)) ((p1.trans e1).trans (zCe_w (by omega)).symm)
          · exact absurd rfl h104
        · exact absurd rfl h86
      · exact absurd rfl h68
    · exact absurd rfl h15
  have hw : zWw (zCh9 L) p = -1 := by
    unfold zWw
    rw [if_neg (show ¬ zCh9 L p = 98 by omega), if_neg (show ¬ zCh9 L p = 115 by omega), if_neg (show ¬ zCh9 L p = 99 by omega), if_neg (show ¬ zCh9 L p = 114 by omega), if_neg (show ¬ zCh9 L p = 119 by omega)]
  have ha : zWa (zCh9 L) p = 0 := by
    unfold zWa
    rw [if_neg (show ¬ zCh9 L p = 98 by omega), if_neg (show ¬ zCh9 L p = 115 by omega), if_neg (show ¬ zCh9 L p = 99 by omega), if_neg (show ¬ zCh9 L p = 114 by omega), if_neg (show ¬ zCh9 L p = 119 by omega)]
  have e1 : p = zq1 (zCh9 L) p := by
    unfold zq1
    omega
  refine zr_iconst (q := 1) dX12_commandHere_0 rfl (z_in_of rfl) ?_
  refine zp_al0 (q := 2) dX12_commandHere_1 rfl ?_
  refine zf_getG (v := K) 23 (k517) (hk) rfl fdX12_176 (q := 5) dX12_commandHere_2 rfl rfl ?_
  refine zr_imul (q := 6) dX12_commandHere_5 rfl (fun hA hB => by unfold z_in at hA hB ⊢; omega) ?_
  refine zr_iconst (q := 7) dX12_commandHere_6 rfl (z_in_of rfl) ?_
  refine zr_iadd (q := 8) dX12_commandHere_7 rfl (fun hA hB => by unfold z_in at hA hB ⊢; omega) ?_
  refine zp_is1 (q := 9) dX12_commandHere_8 rfl rfl rfl ?_
  refine zp_al0 (q := 10) dX12_commandHere_9 rfl ?_
  refine zr_bipush (q := 12) dX12_commandHere_10 rfl (z_in_of rfl) (by decide +kernel) ?_
  refine zf_callV1 (k517) (s_X12_skips_x H hp (by omega) (show zCh9 L p ≠ 98 by omega)) mtX12_skips wiX12_skips weX12_skips wlX12_187 (q := 15) dX12_commandHere_12 rfl rfl rfl rfl rfl rfl rfl (fun r S9 M9 h8 hP => ?_) (fun k S9 M9 hP => (z_no hP.1 rfl).elim)
  obtain ⟨rfl, rfl, h9⟩ := hP
  subst M9
  refine zr_if_eq (q := 62) (q2 := 18) dX12_commandHere_15 (by decide) rfl (fun h15 => ?_) (fun h15 => ?_)
  · refine zp_al0 (q := 63) dX12_commandHere_62 rfl ?_
    refine zr_bipush (q := 65) dX12_commandHere_63 rfl (z_in_of rfl) (by decide +kernel) ?_
    refine zf_callV1 (k517) (s_X12_skips_x H hp (by omega) (show zCh9 L p ≠ 115 by omega)) mtX12_skips wiX12_skips weX12_skips wlX12_187 (q := 68) dX12_commandHere_65 rfl rfl rfl rfl rfl rfl rfl (fun r S9 M9 h8 hP => ?_) (fun k S9 M9 hP => (z_no hP.1 rfl).elim)
    obtain ⟨rfl, rfl, h9⟩ := hP
    subst M9
    refine zr_if_eq (q := 80) (q2 := 71) dX12_commandHere_68 (by decide) rfl (fun h68 => ?_) (fun h68 => ?_)
    · refine zp_al0 (q := 81) dX12_commandHere_80 rfl ?_
      refine zr_bipush (q := 83) dX12_commandHere_81 rfl (z_in_of rfl) (by decide +kernel) ?_
      refine zf_callV1 (k517) (s_X12_skips_x H hp (by omega) (show zCh9 L p ≠ 99 by omega)) mtX12_skips wiX12_skips weX12_skips wlX12_187 (q := 86) dX12_commandHere_83 rfl rfl rfl rfl rfl rfl rfl (fun r S9 M9 h8 hP => ?_) (fun k S9 M9 hP => (z_no hP.1 rfl).elim)
      obtain ⟨rfl, rfl, h9⟩ := hP
      subst M9
      refine zr_if_eq (q := 98) (q2 := 89) dX12_commandHere_86 (by decide) rfl (fun h86 => ?_) (fun h86 => ?_)
      · refine zp_al0 (q := 99) dX12_commandHere_98 rfl ?_
        refine zr_bipush (q := 101) dX12_commandHere_99 rfl (z_in_of rfl) (by decide +kernel) ?_
        refine zf_callV1 (k517) (s_X12_skips_x H hp (by omega) (show zCh9 L p ≠ 114 by omega)) mtX12_skips wiX12_skips weX12_skips wlX12_187 (q := 104) dX12_commandHere_101 rfl rfl rfl rfl rfl rfl rfl (fun r S9 M9 h8 hP => ?_) (fun k S9 M9 hP => (z_no hP.1 rfl).elim)
        obtain ⟨rfl, rfl, h9⟩ := hP
        subst M9
        refine zr_if_eq (q := 113) (q2 := 107) dX12_commandHere_104 (by decide) rfl (fun h104 => ?_) (fun h104 => ?_)
        · refine zp_al0 (q := 114) dX12_commandHere_113 rfl ?_
          refine zr_bipush (q := 116) dX12_commandHere_114 rfl (z_in_of rfl) (by decide +kernel) ?_
          refine zf_callV1 (k517) (s_X12_skips_x H hp (by omega) (show zCh9 L p ≠ 119 by omega)) mtX12_skips wiX12_skips weX12_skips wlX12_187 (q := 119) dX12_commandHere_116 rfl rfl rfl rfl rfl rfl rfl (fun r S9 M9 h8 hP => ?_) (fun k S9 M9 hP => (z_no hP.1 rfl).elim)
          obtain ⟨rfl, rfl, h9⟩ := hP
          subst M9
          refine zr_if_eq (q := 131) (q2 := 122) dX12_commandHere_119 (by decide) rfl (fun h119 => ?_) (fun h119 => ?_)
          · refine zr_iconst (q := 132) dX12_commandHere_131 rfl (z_in_of rfl) ?_
            refine zr_ireturn dX12_commandHere_132 rfl (z_fit_z (by decide)) ?_
            exact hn (fun ho => by have := ho.1; omega) _ (zTo.r M) ((hp.trans e1).trans (zCe_w (by omega)).symm)
          · exact absurd rfl h119
        · exact absurd rfl h104
      · exact absurd rfl h86
    · exact absurd rfl h68
  · exact absurd rfl h15
theorem s_X12_commandHere (H : zXh M L) (hE : zEd (zCh9 L) n) {p K : Int} (h0 : 0 ≤ p) (h1 : p ≤ n) (K0 : 0 ≤ K) (K1 : K ≤ 30) (hk : M 517 23 = K) (hp : M 517 21 = p) (ho : zCo (zCh9 L) p) : z_Call mX12_commandHere zF [(1, 517)] M (fun r S' M' => r = (0, 1) ∧ S' = zF ∧ zTo M M' (5 * K) (5 * K + 5) (M' 517 21) ∧ M' 517 21 = zCe (zCh9 L) p ∧ zTd M' (zCh9 L) p K) :=
  s_X12_commandHere_q H hE h0 h1 K0 K1 hk hp (fun _ M' x y z => ⟨rfl, rfl, x, y, z⟩) (fun h => absurd ho h)
theorem s_X12_commandHere_x (H : zXh M L) (hE : zEd (zCh9 L) n) {p K : Int} (h0 : 0 ≤ p) (h1 : p ≤ n) (K0 : 0 ≤ K) (K1 : K ≤ 30) (hk : M 517 23 = K) (hp : M 517 21 = p) (ho : ¬ zCo (zCh9 L) p) : z_Call mX12_commandHere zF [(1, 517)] M (fun r S' M' => r = (0, 0) ∧ S' = zF ∧ zTo M M' (5 * K) (5 * K + 5) (M' 517 21) ∧ M' 517 21 = zCe (zCh9 L) p) :=
  s_X12_commandHere_q H hE h0 h1 K0 K1 hk hp (fun h => absurd h ho) (fun _ M' x y => ⟨rfl, rfl, x, y⟩)
theorem zTd.of {M M' : zM} {c : Int → Int} {p K : Int} (h : zTd M c p K) (hh : ∀ j, 5 * K ≤ j → j < 5 * K + 5 → M' 528 j = M 528 j) : zTd M' c p K := by
  unfold zTd
  rw [hh (5 * K) (by omega) (by omega), hh (5 * K + 1) (by omega) (by omega), hh (5 * K + 2) (by omega) (by omega), hh (5 * K + 3) (by omega) (by omega), hh (5 * K + 4) (by omega) (by omega)]
  exact h
/-- only what has been told has changed, and where the reference stands -/
def zXk8 (M M' : zM) : Prop := (∀ z, z ≠ 517 → z ≠ 528 → M' z = M z) ∧ ∀ j, j ≠ 21 → j ≠ 23 → M' 517 j = M 517 j
theorem zXk8.h {M M' : zM} (h : zXk8 M M') (H : zXh M L) : zXh M' L := by
  obtain ⟨h1, h2, h3⟩ := H
  refine ⟨?_, ⟨(h.2 9 (by decide) (by decide)).trans h2.1, fun i hi => ?_⟩, h3⟩
  · unfold zHm at h1 ⊢
    rw [h.2 0 (by decide) (by decide), h.2 1 (by decide) (by decide), h.2 2 (by decide) (by decide), h.2 3 (by decide) (by decide), h.2 8 (by decide) (by decide), h.2 12 (by decide) (by decide), h.2 14 (by decide) (by decide), h.2 15 (by decide) (by decide), h.2 16 (by decide) (by decide), h.2 17 (by decide) (by decide), h.2 22 (by decide) (by decide)]
    exact h1
  · rw [h.1 522 (by decide) (by decide)]
    exact h2.2 i hi
theorem zXk8.t {M M1 M2 : zM} (h : zXk8 M M1) (h2 : zXk8 M1 M2) : zXk8 M M2 := ⟨fun z a b => (h2.1 z a b).trans (h.1 z a b), fun j a b => (h2.2 j a b).trans (h.2 j a b)⟩
theorem zTo.k {M M1 : zM} {a b q : Int} (h : zTo M M1 a b q) : zXk8 M M1 := ⟨h.1, fun j x _ => h.2.1 j x⟩
theorem zXk8.u {M : zM} {j v : Int} (hj : j = 21 ∨ j = 23) : zXk8 M (z_up M 517 j v) := ⟨fun z a _ => z_up_ne a, fun i a b => z_up_sl (by omega)⟩
theorem s_X12_isText_l (H : zXh M L) (hn : n = L.length) (hE : zEd (zCh9 L) n) {N : Nat} (hN : zLast (zCh9 L) N) {bc bs : Nat} {Q : zV → zS → zM → Prop}
    (hy : zTok (zCh9 L) n N → ∀ M', zXk8 M M' → M' 517 23 = (N : Int) + 1 → (∀ j : Nat, j < N + 1 → zTd M' (zCh9 L) (zPs9 (zCh9 L) j) j) → Q (0, 1) zF M') (hx : ¬ zTok (zCh9 L) n N → ∀ M', zXk8 M M' → M' 517 21 = zCe (zCh9 L) (zPs9 (zCh9 L) N) → Q (0, 0) zF M') :
    ∀ (m : Nat) (k : Nat) (M' : zM), k ≤ N → N - k < m → zXk8 M M' → M' 517 21 = zPs9 (zCh9 L) k → M' 517 23 = k → (∀ j : Nat, j < k → zTd M' (zCh9 L) (zPs9 (zCh9 L) j) j) →
    z_Ex mX12_isText zF 10 [(1, 517)] [] M' bc bs Q := by
  intro m
  induction m with
  | zero => intro k M' a1 a2; omega
  | succ m ih =>
    intro k M' a1 a2 hK hA hT hD
    have H' := hK.h H
    have hE1 := hE.2.1
    have hkr := zPs9_rg hE k (fun j hj => hN.1 j (by omega))
    have hCr := zCe_rg hE (p := zPs9 (zCh9 L) k) (by omega) hkr.2
    by_cases ec : zCo (zCh9 L) (zPs9 (zCh9 L) k)
    · have e5 := hCr.2.2.2.2.2.2.2.1 ec
      by_cases e9 : zCh9 L (zCe (zCh9 L) (zPs9 (zCh9 L) k)) = 59
      · have hkN : k < N := by
          by_cases e : k = N
          · subst e
            exact absurd ⟨ec, e9⟩ hN.2
          · omega
        have hlt := zCh9_lt (by rw [e9]; decide) H.2.2
        refine zp_al0 (q := 11) dX12_isText_10 rfl ?_
        refine zf_callV0 (k517) (s_X12_commandHere H' hE (by omega) hkr.2 (by omega) (by omega) hT hA ec) mtX12_commandHere wiX12_commandHere weX12_commandHere wlX12_222 (q := 14) dX12_isText_11 rfl rfl rfl rfl rfl rfl rfl (fun r S9 M9 h8 hP => ?_) (fun k S9 M9 hP => (z_no hP.1 rfl).elim)
        obtain ⟨rfl, rfl, x1, x2, x3⟩ := hP
        have H1 := x1.h H'
        have K1 : zXk8 M9 (z_up M9 517 23 ((k : Int) + 1)) := zXk8.u (Or.inr rfl)
        have H2 := K1.h H1
        refine zr_if_ne (q := 19) (q2 := 17) dX12_isText_14 (by decide) rfl (fun h14 => ?_) (fun h14 => ?_)
        · refine zp_al0 (q := 20) dX12_isText_19 rfl ?_
          refine zr_dup (q := 21) dX12_isText_20 rfl (Or.inr rfl) ?_
          refine zf_getG (v := k) 23 (k517) ((x1.2.1 23 (by decide)).trans hT) rfl fdX12_176 (q := 24) dX12_isText_21 rfl rfl ?_
          refine zr_iconst (q := 25) dX12_isText_24 rfl (z_in_of rfl) ?_
          refine zr_iadd (q := 26) dX12_isText_25 rfl (fun hA hB => by unfold z_in at hA hB ⊢; omega) ?_
          refine zf_putG 23 (k517) rfl fpX12_176 (q := 29) dX12_isText_26 rfl rfl (by decide) (z_fit_i _) ?_
          refine zp_al0 (q := 30) dX12_isText_29 rfl ?_
          refine zr_bipush (q := 32) dX12_isText_30 rfl (z_in_of rfl) (by decide +kernel) ?_
          refine zf_callV1 (k517) (s_X12_skips H2 ((z_up_sl (by decide)).trans x2) (by omega) (by omega) (by decide) e9) mtX12_skips wiX12_skips weX12_skips wlX12_187 (q := 35) dX12_isText_32 rfl rfl rfl rfl rfl rfl rfl (fun r S9 M9 h8 hP => ?_) (fun k S9 M9 hP => (z_no hP.1 rfl).elim)
          obtain ⟨rfl, rfl, y1⟩ := hP
          refine zr_if_ne (q := 10) (q2 := 38) dX12_isText_35 (by decide) rfl (fun h35 => ?_) (fun h35 => ?_)
          · refine ih (k + 1) M9 (by omega) (by omega) (hK.t (x1.k.t (K1.t y1.k))) y1.2.2.1 ((y1.2.1 23 (by decide)).trans (z_up_eq.trans (by omega))) (fun j hj => ?_)
            by_cases ej : j = k
            · rw [ej]
              exact x3.of (fun i _ _ => (y1.2.2.2 i (by omega)).trans (congrFun (z_up_ne (by decide)) i))
            · exact (hD j (by omega)).of (fun i i0 i1 => ((y1.2.2.2 i (by omega)).trans (congrFun (z_up_ne (by decide)) i)).trans (x1.2.2.2 i (by omega)))
          · exact absurd (by decide) h35
        · exact absurd (by decide) h14
      · have hkN : k = N := by
          by_cases e : k < N
          · exact absurd (hN.1 k e).2 e9
          · omega
        subst hkN
        by_cases en : zCe (zCh9 L) (zPs9 (zCh9 L) k) = n
        · skip
          refine zp_al0 (q := 11) dX12_isText_10 rfl ?_
          refine zf_callV0 (k517) (s_X12_commandHere H' hE (by omega) hkr.2 (by omega) (by omega) hT hA ec) mtX12_commandHere wiX12_commandHere weX12_commandHere wlX12_222 (q := 14) dX12_isText_11 rfl rfl rfl rfl rfl rfl rfl (fun r S9 M9 h8 hP => ?_) (fun k S9 M9 hP => (z_no hP.1 rfl).elim)
          obtain ⟨rfl, rfl, x1, x2, x3⟩ := hP
          have H1 := x1.h H'
          have K1 : zXk8 M9 (z_up M9 517 23 ((k : Int) + 1)) := zXk8.u (Or.inr rfl)
          have H2 := K1.h H1
          refine zr_if_ne (q := 19) (q2 := 17) dX12_isText_14 (by decide) rfl (fun h14 => ?_) (fun h14 => ?_)
          · refine zp_al0 (q := 20) dX12_isText_19 rfl ?_
            refine zr_dup (q := 21) dX12_isText_20 rfl (Or.inr rfl) ?_
            refine zf_getG (v := k) 23 (k517) ((x1.2.1 23 (by decide)).trans hT) rfl fdX12_176 (q := 24) dX12_isText_21 rfl rfl ?_
            refine zr_iconst (q := 25) dX12_isText_24 rfl (z_in_of rfl) ?_
            refine zr_iadd (q := 26) dX12_isText_25 rfl (fun hA hB => by unfold z_in at hA hB ⊢; omega) ?_
            refine zf_putG 23 (k517) rfl fpX12_176 (q := 29) dX12_isText_26 rfl rfl (by decide) (z_fit_i _) ?_
            refine zp_al0 (q := 30) dX12_isText_29 rfl ?_
            refine zr_bipush (q := 32) dX12_isText_30 rfl (z_in_of rfl) (by decide +kernel) ?_
            refine zf_callV1 (k517) (s_X12_skips_x H2 ((z_up_sl (by decide)).trans x2) (by omega) e9) mtX12_skips wiX12_skips weX12_skips wlX12_187 (q := 35) dX12_isText_32 rfl rfl rfl rfl rfl rfl rfl (fun r S9 M9 h8 hP => ?_) (fun k S9 M9 hP => (z_no hP.1 rfl).elim)
            obtain ⟨rfl, rfl, h9⟩ := hP
            subst M9
            refine zr_if_ne (q := 10) (q2 := 38) dX12_isText_35 (by decide) rfl (fun h35 => ?_) (fun h35 => ?_)
            · exact absurd rfl h35
            · refine zp_al0 (q := 39) dX12_isText_38 rfl ?_
              refine zf_getG (v := n) 21 (k517) (((z_up_sl (by decide)).trans x2).trans en) rfl fdX12_170 (q := 42) dX12_isText_39 rfl rfl ?_
              refine zp_al0 (q := 43) dX12_isText_42 rfl ?_
              refine zf_getG (v := n) 9 (k517) (H2.2.1.1.trans hn.symm) rfl fdX12_167 (q := 46) dX12_isText_43 rfl rfl ?_
              refine zr_icmp_ne (q := 53) (q2 := 49) dX12_isText_46 (by decide) rfl (fun h46 => ?_) (fun h46 => ?_)
              · exact absurd rfl h46
              · refine zr_iconst (q := 50) dX12_isText_49 rfl (z_in_of rfl) ?_
                refine zr_goto (q := 54) dX12_isText_50 (by decide) ?_
                refine zr_ireturn dX12_isText_54 rfl (z_fit_z (by decide)) ?_
                refine hy ⟨ec, en⟩ _ (hK.t (x1.k.t K1)) z_up_eq (fun j hj => ?_)
                by_cases ej : j = k
                · rw [ej]
                  exact x3.of (fun i _ _ => congrFun (z_up_ne (by decide)) i)
                · exact (hD j (by omega)).of (fun i i0 i1 => (congrFun (z_up_ne (by decide)) i).trans (x1.2.2.2 i (by omega)))
          · exact absurd (by decide) h14
        · skip
          refine zp_al0 (q := 11) dX12_isText_10 rfl ?_
          refine zf_callV0 (k517) (s_X12_commandHere H' hE (by omega) hkr.2 (by omega) (by omega) hT hA ec) mtX12_commandHere wiX12_commandHere weX12_commandHere wlX12_222 (q := 14) dX12_isText_11 rfl rfl rfl rfl rfl rfl rfl (fun r S9 M9 h8 hP => ?_) (fun k S9 M9 hP => (z_no hP.1 rfl).elim)
          obtain ⟨rfl, rfl, x1, x2, x3⟩ := hP
          have H1 := x1.h H'
          have K1 : zXk8 M9 (z_up M9 517 23 ((k : Int) + 1)) := zXk8.u (Or.inr rfl)
          have H2 := K1.h H1
          refine zr_if_ne (q := 19) (q2 := 17) dX12_isText_14 (by decide) rfl (fun h14 => ?_) (fun h14 => ?_)
          · refine zp_al0 (q := 20) dX12_isText_19 rfl ?_
            refine zr_dup (q := 21) dX12_isText_20 rfl (Or.inr rfl) ?_
            refine zf_getG (v := k) 23 (k517) ((x1.2.1 23 (by decide)).trans hT) rfl fdX12_176 (q := 24) dX12_isText_21 rfl rfl ?_
            refine zr_iconst (q := 25) dX12_isText_24 rfl (z_in_of rfl) ?_
            refine zr_iadd (q := 26) dX12_isText_25 rfl (fun hA hB => by unfold z_in at hA hB ⊢; omega) ?_
            refine zf_putG 23 (k517) rfl fpX12_176 (q := 29) dX12_isText_26 rfl rfl (by decide) (z_fit_i _) ?_
            refine zp_al0 (q := 30) dX12_isText_29 rfl ?_
            refine zr_bipush (q := 32) dX12_isText_30 rfl (z_in_of rfl) (by decide +kernel) ?_
            refine zf_callV1 (k517) (s_X12_skips_x H2 ((z_up_sl (by decide)).trans x2) (by omega) e9) mtX12_skips wiX12_skips weX12_skips wlX12_187 (q := 35) dX12_isText_32 rfl rfl rfl rfl rfl rfl rfl (fun r S9 M9 h8 hP => ?_) (fun k S9 M9 hP => (z_no hP.1 rfl).elim)
            obtain ⟨rfl, rfl, h9⟩ := hP
            subst M9
            refine zr_if_ne (q := 10) (q2 := 38) dX12_isText_35 (by decide) rfl (fun h35 => ?_) (fun h35 => ?_)
            · exact absurd rfl h35
            · refine zp_al0 (q := 39) dX12_isText_38 rfl ?_
              refine zf_getG (v := zCe (zCh9 L) (zPs9 (zCh9 L) k)) 21 (k517) ((z_up_sl (by decide)).trans x2) rfl fdX12_170 (q := 42) dX12_isText_39 rfl rfl ?_
              refine zp_al0 (q := 43) dX12_isText_42 rfl ?_
              refine zf_getG (v := n) 9 (k517) (H2.2.1.1.trans hn.symm) rfl fdX12_167 (q := 46) dX12_isText_43 rfl rfl ?_
              refine zr_icmp_ne (q := 53) (q2 := 49) dX12_isText_46 (by decide) rfl (fun h46 => ?_) (fun h46 => ?_)
              · refine zr_iconst (q := 54) dX12_isText_53 rfl (z_in_of rfl) ?_
                refine zr_ireturn dX12_isText_54 rfl (z_fit_z (by decide)) ?_
                exact hx (fun h => en h.2) _ (hK.t (x1.k.t K1)) ((z_up_sl (by decide)).trans x2)
              · exact absurd en h46
          · exact absurd (by decide) h14
    · have hkN : k = N := by
        by_cases e : k < N
        · exact absurd (hN.1 k e).1 ec
        · omega
      subst hkN
      refine zp_al0 (q := 11) dX12_isText_10 rfl ?_
      refine zf_callV0 (k517) (s_X12_commandHere_x H' hE (by omega) hkr.2 (by omega) (by omega) hT hA ec) mtX12_commandHere wiX12_commandHere weX12_commandHere wlX12_222 (q := 14) dX12_isText_11 rfl rfl rfl rfl rfl rfl rfl (fun r S9 M9 h8 hP => ?_) (fun k S9 M9 hP => (z_no hP.1 rfl).elim)
      obtain ⟨rfl, rfl, x1, x2⟩ := hP
      refine zr_if_ne (q := 19) (q2 := 17) dX12_isText_14 (by decide) rfl (fun h14 => ?_) (fun h14 => ?_)
      · exact absurd rfl h14
      · refine zr_iconst (q := 18) dX12_isText_17 rfl (z_in_of rfl) ?_
        refine zr_ireturn dX12_isText_18 rfl (z_fit_z (by decide)) ?_
        exact hx (fun h => ec h.1) _ (hK.t x1.k) x2
theorem s_X12_isText_q (H : zXh M L) (hn : n = L.length) (hE : zEd (zCh9 L) n) {N : Nat} (hN : zLast (zCh9 L) N) {Q : zV → zS → zM → Prop}
    (hy : zTok (zCh9 L) n N → ∀ M', zXk8 M M' → M' 517 23 = (N : Int) + 1 → (∀ j : Nat, j < N + 1 → zTd M' (zCh9 L) (zPs9 (zCh9 L) j) j) → Q (0, 1) zF M') (hx : ¬ zTok (zCh9 L) n N → ∀ M', zXk8 M M' → M' 517 21 = zCe (zCh9 L) (zPs9 (zCh9 L) N) → Q (0, 0) zF M') :
    z_Call mX12_isText zF [(1, 517)] M Q := by
  have K1 : zXk8 M (z_up (z_up M 517 21 0) 517 23 0) := (zXk8.u (Or.inl rfl)).t (zXk8.u (Or.inr rfl))
  refine z_enter (k := 0) rfl rfl rfl ?_
  refine zp_al0 (q := 1) dX12_isText_0 rfl ?_
  refine zr_iconst (q := 2) dX12_isText_1 rfl (z_in_of rfl) ?_
  refine zf_putG 21 (k517) rfl fpX12_170 (q := 5) dX12_isText_2 rfl rfl (by decide) (z_fit_i _) ?_
  refine zp_al0 (q := 6) dX12_isText_5 rfl ?_
  refine zr_iconst (q := 7) dX12_isText_6 rfl (z_in_of rfl) ?_
  refine zf_putG 23 (k517) rfl fpX12_176 (q := 10) dX12_isText_7 rfl rfl (by decide) (z_fit_i _) ?_
  exact s_X12_isText_l (K1.h H) hn hE hN (fun a M' b d e => hy a M' (K1.t b) d e) (fun a M' b d => hx a M' (K1.t b) d) (N + 1) 0 _ (by omega) (by omega) ⟨fun _ _ _ => rfl, fun _ _ _ => rfl⟩ ((z_up_sl (by decide)).trans z_up_eq) z_up_eq (fun j hj => by omega)
theorem s_X12_isText (H : zXh M L) (hn : n = L.length) (hE : zEd (zCh9 L) n) {N : Nat} (hN : zLast (zCh9 L) N) (ho : zTok (zCh9 L) n N) : z_Call mX12_isText zF [(1, 517)] M (fun r S' M' => r = (0, 1) ∧ S' = zF ∧ zXk8 M M' ∧ M' 517 23 = (N : Int) + 1 ∧ ∀ j : Nat, j < N + 1 → zTd M' (zCh9 L) (zPs9 (zCh9 L) j) j) :=
  s_X12_isText_q H hn hE hN (fun _ M' x y z => ⟨rfl, rfl, x, y, z⟩) (fun h => absurd ho h)
theorem s_X12_isText_x (H : zXh M L) (hn : n = L.length) (hE : zEd (zCh9 L) n) {N : Nat} (hN : zLast (zCh9 L) N) (ho : ¬ zTok (zCh9 L) n N) : z_Call mX12_isText zF [(1, 517)] M (fun r S' M' => r = (0, 0) ∧ S' = zF ∧ zXk8 M M' ∧ M' 517 21 = zCe (zCh9 L) (zPs9 (zCh9 L) N)) :=
  s_X12_isText_q H hn hE hN (fun h => absurd h ho) (fun _ M' x y => ⟨rfl, rfl, x, y⟩)
end ZRX
