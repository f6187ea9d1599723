/-! dep: 70 71 72 73 74 75 76 77 -/
/-! ===== execute in the reference ===== -/
section ZXE
variable {M : zM} {L : List Int} {n : Int}
theorem zTi9.t8 (h : zTi9 M L) : zTi8 M L := h.2
theorem zTi8.of {M' : zM} (h : zTi8 M L) (e : M' 522 = M 522) : zTi8 M' L := fun i hi => by rw [e]; exact h i hi
theorem s_X12_execute_l (H : zHm M) (hT : zTi8 M L) (hl : L.length ≤ 60) (hE : zEd (zCh9 L) n) {N : Nat} (hN : zLast (zCh9 L) N) (hA : ∀ j : Nat, j ≤ N → zCo (zCh9 L) (zPs9 (zCh9 L) j)) (hm : M 517 23 = (N : Int) + 1) (hD : ∀ j : Nat, j < N + 1 → zTd M (zCh9 L) (zPs9 (zCh9 L) j) j) (h5 : 0 ≤ M 517 5 ∧ M 517 5 ≤ 8) (h6 : M 517 6 ≠ 0) (hG : zWF (M 518)) {bc bs : Nat} {Q : zV → zS → zM → Prop}
    (hy : (∀ j : Nat, j < N + 1 → zXo9 (zGk (M 518) (zCh9 L) j) (zCh9 L) (zPs9 (zCh9 L) j)) → ∀ v M', zMw M M' → M' 517 7 = 0 → M' 518 = zGk (M 518) (zCh9 L) (N + 1) → z_Ex mX12_execute zF 98 [(1, 517), (0, 1), (0, (N : Int) + 1), (0, v)] [] M' bc bs Q)
    (hx : ∀ k : Nat, k ≤ N → (∀ j : Nat, j < k → zXo9 (zGk (M 518) (zCh9 L) j) (zCh9 L) (zPs9 (zCh9 L) j)) → ¬ zXo9 (zGk (M 518) (zCh9 L) k) (zCh9 L) (zPs9 (zCh9 L) k) → ∀ v M', zMw M M' → 1 ≤ M' 517 7 → z_Ex mX12_execute zF 98 [(1, 517), (0, 1), (0, (k : Int)), (0, v)] [] M' bc bs Q) :
    ∀ (m : Nat) (k : Nat) (v : Int) (M' : zM), k ≤ N + 1 → N + 1 - k < m → zMw M M' → M' 517 7 = 0 → M' 518 = zGk (M 518) (zCh9 L) k → (∀ j : Nat, j < k → zXo9 (zGk (M 518) (zCh9 L) j) (zCh9 L) (zPs9 (zCh9 L) j)) →
    z_Ex mX12_execute zF 62 [(1, 517), (0, 1), (0, (k : Int)), (0, v)] [] M' bc bs Q := by
  intro m
  induction m with
  | zero => intro k v M' a1 a2; omega
  | succ m ih =>
    intro k v M' a1 a2 hM h7 hR hj
    have H' := hM.h H
    have hE1 := hE.2.1
    have hm' : M' 517 23 = (N : Int) + 1 := (hM.1.2 23 (by decide) (by decide) (by decide) (by decide) (by decide)).trans hm
    by_cases ek : k ≤ N
    · have hkr := zPs9_rg hE k (fun j hj2 => hN.1 j (by omega))
      have ec := hA k ek
      have hw9 := zWw_rg (zCh9 L) (zPs9 (zCh9 L) k)
      have hrg := zCe_rg hE (p := zPs9 (zCh9 L) k) (by omega) hkr.2
      have fm := zFm_end hE.2.2.1 60 (zq3 (zCh9 L) (zPs9 (zCh9 L) k)) (by omega)
      have fr := zFm_range (zCh9 L) 60 (zq3 (zCh9 L) (zPs9 (zCh9 L) k))
      have fe : zFm (zCh9 L) 60 (zq3 (zCh9 L) (zPs9 (zCh9 L) k)) = zFw9 (zCh9 L) (zq3 (zCh9 L) (zPs9 (zCh9 L) k)) := rfl
      rw [fe] at fm fr
      have hwf := zGk_w hG k (fun j hj2 => hA j (by omega)) hj
      have hD' : zTd M' (zCh9 L) (zPs9 (zCh9 L) k) k := (hD k (by omega)).of (fun j _ _ => congrFun hM.told j)
      have sC := s_X12_carries H' (hT.of hM.input) hl (K := (k : Int)) (by omega) (by omega) rfl ⟨ec.1, hw9.2⟩ hD' (by omega) (by omega) (by rw [hM.2.2]; exact h5) (by rw [hM.w6]; exact h6) (by rw [hR]; exact hwf)
      rw [hR] at sC
      refine zp_il2 (q := 63) dX12_execute_62 rfl ?_
      refine zp_al0 (q := 64) dX12_execute_63 rfl ?_
      refine zf_getG (v := (N : Int) + 1) 23 (k517) (hm') rfl fdX12_176 (q := 67) dX12_execute_64 rfl rfl ?_
      refine zr_icmp_ge (q := 98) (q2 := 70) dX12_execute_67 (by decide) rfl (fun h67 => ?_) (fun h67 => ?_)
      · exact absurd h67 (by omega)
      · refine zp_al0 (q := 71) dX12_execute_70 rfl ?_
        refine zf_getG (v := 0) 7 (k517) (h7) rfl fdX12_52 (q := 74) dX12_execute_71 rfl rfl ?_
        refine zr_if_ne (q := 98) (q2 := 77) dX12_execute_74 (by decide) rfl (fun h74 => ?_) (fun h74 => ?_)
        · exact absurd rfl h74
        · refine zp_al0 (q := 78) dX12_execute_77 rfl ?_
          refine zr_iconst (q := 79) dX12_execute_78 rfl (z_in_of rfl) ?_
          refine zp_il2 (q := 80) dX12_execute_79 rfl ?_
          refine zr_imul (q := 81) dX12_execute_80 rfl (fun hA hB => by unfold z_in at hA hB ⊢; omega) ?_
          refine zf_callV1 (k517) (sC) mtX12_carries wiX12_carries weX12_carries wlX12_256 (q := 84) dX12_execute_81 rfl rfl rfl rfl rfl rfl rfl (fun r S9 M9 h8 hP => ?_) (fun k S9 M9 hP => by obtain ⟨x9, hx9, _⟩ := hP; exact (z_no hx9 rfl).elim)
          obtain ⟨y, rfl, rfl, x1, hh⟩ := hP
          have hM9 := hM.t x1
          have hm9 : M9 517 23 = (N : Int) + 1 := (hM9.1.2 23 (by decide) (by decide) (by decide) (by decide) (by decide)).trans hm
          refine zp_is3 (q := 85) dX12_execute_84 rfl rfl rfl ?_
          refine zp_al0 (q := 86) dX12_execute_85 rfl ?_
          refine zf_getG (v := M9 517 7) 7 (k517) (rfl) rfl fdX12_52 (q := 89) dX12_execute_86 rfl rfl ?_
          refine zr_if_ne (q := 62) (q2 := 92) dX12_execute_89 (by decide) rfl (fun h89 => ?_) (fun h89 => ?_)
          · skip
            have hbad : ¬ zXo9 (zGk (M 518) (zCh9 L) k) (zCh9 L) (zPs9 (zCh9 L) k) ∧ 1 ≤ M9 517 7 := hh.elim (fun q => absurd q.2.1 h89) id
            refine zp_il2 (q := 63) dX12_execute_62 rfl ?_
            refine zp_al0 (q := 64) dX12_execute_63 rfl ?_
            refine zf_getG (v := (N : Int) + 1) 23 (k517) (hm9) rfl fdX12_176 (q := 67) dX12_execute_64 rfl rfl ?_
            refine zr_icmp_ge (q := 98) (q2 := 70) dX12_execute_67 (by decide) rfl (fun h67b => absurd h67b (by omega)) (fun h67b => ?_)
            refine zp_al0 (q := 71) dX12_execute_70 rfl ?_
            refine zf_getG (v := M9 517 7) 7 (k517) (rfl) rfl fdX12_52 (q := 74) dX12_execute_71 rfl rfl ?_
            refine zr_if_ne (q := 98) (q2 := 77) dX12_execute_74 (by decide) rfl (fun h74b => ?_) (fun h74b => absurd (show M9 517 7 ≠ 0 by omega) h74b)
            exact hx k ek hj hbad.1 y M9 hM9 hbad.2
          · refine zp_inc2 (q := 95) dX12_execute_92 rfl rfl rfl (fun hA => by unfold z_in at hA ⊢; omega) ?_
            refine zr_goto (q := 62) dX12_execute_95 (by decide) ?_
            have hgood : zXo9 (zGk (M 518) (zCh9 L) k) (zCh9 L) (zPs9 (zCh9 L) k) ∧ M9 517 7 = 0 ∧ M9 518 = gX9 (zGk (M 518) (zCh9 L) k) (zCh9 L) (zPs9 (zCh9 L) k) := hh.elim id (fun q => absurd (show M9 517 7 ≠ 0 by have := q.2; omega) h89)
            rw [show (k : Int) + 1 = ((k + 1 : Nat) : Int) by omega]
            refine ih (k + 1) y M9 (by omega) (by omega) hM9 hgood.2.1 hgood.2.2 (fun j hj2 => ?_)
            by_cases e : j = k
            · rw [e]
              exact hgood.1
            · exact hj j (by omega)
    · have ekN : k = N + 1 := by omega
      subst ekN
      rw [show (((N + 1 : Nat)) : Int) = (N : Int) + 1 by omega]
      refine zp_il2 (q := 63) dX12_execute_62 rfl ?_
      refine zp_al0 (q := 64) dX12_execute_63 rfl ?_
      refine zf_getG (v := (N : Int) + 1) 23 (k517) (hm') rfl fdX12_176 (q := 67) dX12_execute_64 rfl rfl ?_
      refine zr_icmp_ge (q := 98) (q2 := 70) dX12_execute_67 (by decide) rfl (fun h67 => ?_) (fun h67 => ?_)
      · exact hy hj v M' hM h7 hR
      · exact absurd (by omega) h67
theorem s_X12_execute_y (H : zHm M) (h7 : M 517 7 = 0) {t : Int} (hm : M 517 23 = t) (h5 : 0 ≤ M 517 5 ∧ M 517 5 ≤ 8) {k v : Int} {bc bs : Nat} {Q : zV → zS → zM → Prop} (hQ : ∀ M', (∀ z, z ≠ 517 → z ≠ 519 → M' z = z_up M 517 6 0 z) → (∀ j, j ≠ 5 → j ≠ 7 → M' 517 j = z_up M 517 6 0 517 j) → M' 517 7 = 0 → zKp (z_up M 517 6 0) M' (z_up M 517 6 0 521) → Q (0, t) zF M') :
    z_Ex mX12_execute zF 98 [(1, 517), (0, 1), (0, k), (0, v)] [] M bc bs Q := by
  have H1 : zHm (z_up M 517 6 0) := by
    unfold zHm at H ⊢
    rw [z_up_sl (by decide), z_up_sl (by decide), z_up_sl (by decide), z_up_sl (by decide), z_up_sl (by decide), z_up_sl (by decide), z_up_sl (by decide), z_up_sl (by decide), z_up_sl (by decide), z_up_sl (by decide), z_up_sl (by decide)]
    exact H
  refine zp_al0 (q := 99) dX12_execute_98 rfl ?_
  refine zr_iconst (q := 100) dX12_execute_99 rfl (z_in_of rfl) ?_
  refine zf_putG 6 (k517) rfl fpX12_55 (q := 103) dX12_execute_100 rfl rfl (by decide) (z_fit_z (by decide)) ?_
  refine zp_al0 (q := 104) dX12_execute_103 rfl ?_
  refine zf_getG (v := 0) 7 (k517) (by rw [z_up_sl (by decide)]; exact h7) rfl fdX12_52 (q := 107) dX12_execute_104 rfl rfl ?_
  refine zr_if_le (q := 143) (q2 := 110) dX12_execute_107 (by decide) rfl (fun h107 => ?_) (fun h107 => ?_)
  · refine zp_al0 (q := 144) dX12_execute_143 rfl ?_
    refine zp_al0 (q := 145) dX12_execute_144 rfl ?_
    refine zf_getG (v := 521) 3 (k517) (H1.2.2.2.1) rfl fdX12_19 (q := 148) dX12_execute_145 rfl rfl ?_
    refine zf_callV1 (k517) (s_X12_keeps (u := 521) H1 k521 (by decide) (by decide) (by rw [z_up_sl (by decide)]; exact h5)) mtX12_keeps wiX12_keeps weX12_keeps wlX12_80 (q := 151) dX12_execute_148 rfl rfl rfl rfl rfl rfl rfl (fun r S9 M9 h8 hP => ?_) (fun k S9 M9 hP => (z_no hP.1 rfl).elim)
    obtain ⟨rfl, rfl, x1, x2, x3, x4⟩ := hP
    refine zp_al0 (q := 152) dX12_execute_151 rfl ?_
    refine zf_getG (v := t) 23 (k517) (by rw [x2 23 (by decide) (by decide), z_up_sl (by decide)]; exact hm) rfl fdX12_176 (q := 155) dX12_execute_152 rfl rfl ?_
    refine zr_ireturn dX12_execute_155 rfl (z_fit_i _) ?_
    exact hQ M9 x1 x2 x3 x4
  · exact absurd (by decide) h107
theorem s_X12_execute_n (H : zHm M) (h7 : 1 ≤ M 517 7) {k v : Int} (hk : 0 ≤ k) {bc bs : Nat} {Q : zV → zS → zM → Prop} (hQ : ∀ w M', (∀ z, z ≠ 517 → z ≠ 518 → M' z = z_up M 517 6 0 z) → (∀ j, j ≠ 7 → j ≠ 11 → M' 517 j = z_up M 517 6 0 517 j) → M' 517 7 = 2 → M' 517 11 = k → (∀ j, 0 ≤ j → j < 160 → M' 518 j = M 521 j) → Q (0, w) zF M') :
    z_Ex mX12_execute zF 98 [(1, 517), (0, 1), (0, k), (0, v)] [] M bc bs Q := by
  have H1 : zHm (z_up M 517 6 0) := by
    unfold zHm at H ⊢
    rw [z_up_sl (by decide), z_up_sl (by decide), z_up_sl (by decide), z_up_sl (by decide), z_up_sl (by decide), z_up_sl (by decide), z_up_sl (by decide), z_up_sl (by decide), z_up_sl (by decide), z_up_sl (by decide), z_up_sl (by decide)]
    exact H
  refine zp_al0 (q := 99) dX12_execute_98 rfl ?_
  refine zr_iconst (q := 100) dX12_execute_99 rfl (z_in_of rfl) ?_
  refine zf_putG 6 (k517) rfl fpX12_55 (q := 103) dX12_execute_100 rfl rfl (by decide) (z_fit_z (by decide)) ?_
  refine zp_al0 (q := 104) dX12_execute_103 rfl ?_
  refine zf_getG (v := M 517 7) 7 (k517) (z_up_sl (by decide)) rfl fdX12_52 (q := 107) dX12_execute_104 rfl rfl ?_
  refine zr_if_le (q := 143) (q2 := 110) dX12_execute_107 (by decide) rfl (fun h107 => ?_) (fun h107 => ?_)
  · exact absurd h107 (by omega)
  · refine zp_al0 (q := 111) dX12_execute_110 rfl ?_
    refine zf_getG (v := 521) 3 (k517) (H1.2.2.2.1) rfl fdX12_19 (q := 114) dX12_execute_111 rfl rfl ?_
    refine zr_iconst (q := 115) dX12_execute_114 rfl (z_in_of rfl) ?_
    refine zp_al0 (q := 116) dX12_execute_115 rfl ?_
    refine zf_getG (v := 518) 0 (k517) (H1.1) rfl fdX12_7 (q := 119) dX12_execute_116 rfl rfl ?_
    refine zr_iconst (q := 120) dX12_execute_119 rfl (z_in_of rfl) ?_
    refine zp_callS4 (s_X12_copies k521 k518 (by decide) (by omega) (by omega) (by omega) (by omega) (by omega) (by omega)) mtX12_copies wtX12_copies wlX12_62 (q := 123) dX12_execute_120 rfl rfl rfl rfl rfl (fun r S9 M9 h8 hP => ?_) (fun k S9 M9 hP => (z_no hP.1 rfl).elim)
    obtain ⟨rfl, rfl, h9⟩ := hP
    subst M9
    refine zp_al0 (q := 124) dX12_execute_123 rfl ?_
    refine zp_il2 (q := 125) dX12_execute_124 rfl ?_
    refine zf_putG 11 (k517) rfl fpX12_29 (q := 128) dX12_execute_125 rfl rfl (by decide) (z_fit_i _) ?_
    refine zp_al0 (q := 129) dX12_execute_128 rfl ?_
    refine zr_iconst (q := 130) dX12_execute_129 rfl (z_in_of rfl) ?_
    refine zf_putG 7 (k517) rfl fpX12_52 (q := 133) dX12_execute_130 rfl rfl (by decide) (z_fit_i _) ?_
    refine zp_il3 (q := 134) dX12_execute_133 rfl ?_
    refine zr_if_le (q := 141) (q2 := 137) dX12_execute_134 (by decide) rfl (fun h134 => ?_) (fun h134 => ?_)
    · refine zp_il3 (q := 142) dX12_execute_141 rfl ?_
      refine zr_ireturn dX12_execute_142 rfl (z_fit_i _) ?_
      exact hQ _ _ (fun z a b => by rw [z_up_ne a, z_up_ne a, zCpy_ne b]) (fun j a b => by rw [z_up_sl a, z_up_sl b, zCpy_ne (by decide)]) z_up_eq (by rw [z_up_sl (by decide), z_up_eq]) (fun j a b => by
        rw [z_up_ne (by decide), z_up_ne (by decide), zCpy_in (by omega), z_up_ne (by decide)]
        congr 1
        omega)
    · refine zr_iconst (q := 138) dX12_execute_137 rfl (z_in_of rfl) ?_
      refine zr_goto (q := 142) dX12_execute_138 (by decide) ?_
      refine zr_ireturn dX12_execute_142 rfl (z_fit_i _) ?_
      exact hQ _ _ (fun z a b => by rw [z_up_ne a, z_up_ne a, zCpy_ne b]) (fun j a b => by rw [z_up_sl a, z_up_sl b, zCpy_ne (by decide)]) z_up_eq (by rw [z_up_sl (by decide), z_up_eq]) (fun j a b => by
        rw [z_up_ne (by decide), z_up_ne (by decide), zCpy_in (by omega), z_up_ne (by decide)]
        congr 1
        omega)
/-- what execute leaves as it was -/
def zRf (M M' : zM) : Prop := (∀ z, z ≠ 517 → z ≠ 518 → z ≠ 519 → z ≠ 521 → z < 524 ∨ 528 < z → M' z = M z) ∧ ∀ j, j ≠ 5 → j ≠ 7 → j ≠ 9 → j ≠ 10 → j ≠ 11 → j < 18 ∨ j = 22 ∨ 23 < j → M' 517 j = M 517 j
theorem s_X12_execute_p (H : zHm M) (hT : zTi9 M L) (hl : L.length ≤ 60) (hn : n = L.length) (hE : zEd (zCh9 L) n) {N : Nat} (hN : zLast (zCh9 L) N) (ho : zTok (zCh9 L) n N) (h5 : 0 ≤ M 517 5 ∧ M 517 5 ≤ 8) (h6 : M 517 6 = 0) (hG : zWF (M 518)) {Q : zV → zS → zM → Prop}
    (hy : (∀ j : Nat, j < N + 1 → zXo9 (zGk (M 518) (zCh9 L) j) (zCh9 L) (zPs9 (zCh9 L) j)) → ∀ M', zRf M M' → M' 518 = zGk (M 518) (zCh9 L) (N + 1) → M' 517 7 = 0 → M' 517 9 = 0 → M' 517 10 = M 517 10 → M' 517 11 = M 517 11 → zKp M M' (M 518) → Q (0, (N : Int) + 1) zF M')
    (hx : ∀ k : Nat, k ≤ N → (∀ j : Nat, j < k → zXo9 (zGk (M 518) (zCh9 L) j) (zCh9 L) (zPs9 (zCh9 L) j)) → ¬ zXo9 (zGk (M 518) (zCh9 L) k) (zCh9 L) (zPs9 (zCh9 L) k) → ∀ v M', zRf M M' → (∀ j, 0 ≤ j → j < 160 → M' 518 j = M 518 j) → M' 517 7 = 2 → M' 517 9 = 0 → M' 517 10 = M 517 10 → M' 517 11 = k → M' 519 = M 519 → M' 517 5 = M 517 5 → Q (0, v) zF M') :
    z_Call mX12_execute zF [(1, 517)] M Q := by
  refine z_enter (k := 3) rfl rfl rfl ?_
  refine zp_al0 (q := 1) dX12_execute_0 rfl ?_
  refine zf_callV0 (k517) (s_X12_isText ⟨H, hT, hl⟩ hn hE hN ho) mtX12_isText wiX12_isText weX12_isText wlX12_253 (q := 4) dX12_execute_1 rfl rfl rfl rfl rfl rfl rfl (fun r S9 M9 h8 hP => ?_) (fun k S9 M9 hP => (z_no hP.1 rfl).elim)
  obtain ⟨rfl, rfl, x1, x2, x3⟩ := hP
  have H1 := (x1.h ⟨H, hT, hl⟩ : zXh M9 L).1
  have T8 : zTi8 M9 L := (x1.h ⟨H, hT, hl⟩ : zXh M9 L).2.1.t8
  have g8 : M9 518 = M 518 := x1.1 518 (by decide) (by decide)
  have ex : ∃ M1, M1 = M9 := ⟨M9, rfl⟩
  obtain ⟨M1, e1⟩ := ex
  rw [← e1] at x1 x2 x3 H1 T8 g8 ⊢
  clear e1 M9
  refine zp_is1 (q := 5) dX12_execute_4 rfl rfl rfl ?_
  refine zp_il1 (q := 6) dX12_execute_5 rfl ?_
  refine zr_if_ne (q := 17) (q2 := 9) dX12_execute_6 (by decide) rfl (fun h6_ => ?_) (fun h6_ => ?_)
  · refine zp_al0 (q := 18) dX12_execute_17 rfl ?_
    refine zr_iconst (q := 19) dX12_execute_18 rfl (z_in_of rfl) ?_
    refine zf_putG 9 (k517) rfl fpX12_167 (q := 22) dX12_execute_19 rfl rfl (by decide) (z_fit_i _) ?_
    refine zp_al0 (q := 23) dX12_execute_22 rfl ?_
    refine zp_il1 (q := 24) dX12_execute_23 rfl ?_
    refine zr_if_eq (q := 31) (q2 := 27) dX12_execute_24 (by decide) rfl (fun h24 => ?_) (fun h24 => ?_)
    · exact absurd h24 (by decide)
    · refine zr_iconst (q := 28) dX12_execute_27 rfl (z_in_of rfl) ?_
      refine zr_goto (q := 32) dX12_execute_28 (by decide) ?_
      refine zf_callV1 (k517) (s_X12_fails) mtX12_fails wiX12_fails weX12_fails wlX12_77 (q := 35) dX12_execute_32 rfl rfl rfl rfl rfl rfl rfl (fun r S9 M9 h8 hP => ?_) (fun k S9 M9 hP => (z_no hP.1 rfl).elim)
      obtain ⟨rfl, rfl, h9⟩ := hP
      subst M9
      rw [if_neg (by decide)]
      refine zr_if_eq (q := 40) (q2 := 38) dX12_execute_35 (by decide) rfl (fun h35 => ?_) (fun h35 => ?_)
      · refine zp_al0 (q := 41) dX12_execute_40 rfl ?_
        refine zf_getG (v := 518) 0 (k517) (by rw [z_up_sl (by decide), z_up_sl (by decide)]; exact H1.1) rfl fdX12_7 (q := 44) dX12_execute_41 rfl rfl ?_
        refine zr_iconst (q := 45) dX12_execute_44 rfl (z_in_of rfl) ?_
        refine zp_al0 (q := 46) dX12_execute_45 rfl ?_
        refine zf_getG (v := 521) 3 (k517) (by rw [z_up_sl (by decide), z_up_sl (by decide)]; exact H1.2.2.2.1) rfl fdX12_19 (q := 49) dX12_execute_46 rfl rfl ?_
        refine zr_iconst (q := 50) dX12_execute_49 rfl (z_in_of rfl) ?_
        refine zp_callS4 (s_X12_copies k518 k521 (by decide) (by omega) (by omega) (by omega) (by omega) (by omega) (by omega)) mtX12_copies wtX12_copies wlX12_62 (q := 53) dX12_execute_50 rfl rfl rfl rfl rfl (fun r S9 M9 h8 hP => ?_) (fun k S9 M9 hP => (z_no hP.1 rfl).elim)
        obtain ⟨rfl, rfl, h9⟩ := hP
        subst M9
        refine zp_al0 (q := 54) dX12_execute_53 rfl ?_
        refine zr_iconst (q := 55) dX12_execute_54 rfl (z_in_of rfl) ?_
        refine zf_putG 6 (k517) rfl fpX12_55 (q := 58) dX12_execute_55 rfl rfl (by decide) (z_fit_z (by decide)) ?_
        refine zr_iconst (q := 59) dX12_execute_58 rfl (z_in_of rfl) ?_
        refine zp_is2 (q := 60) dX12_execute_59 rfl rfl rfl ?_
        refine zr_iconst (q := 61) dX12_execute_60 rfl (z_in_of rfl) ?_
        refine zp_is3 (q := 62) dX12_execute_61 rfl rfl rfl ?_
        generalize eM2 : z_up (zCpy (z_up (z_up M1 517 9 0) 517 7 0) 518 0 521 0 160) 517 6 1 = M2
        have s2 : ∀ j, j ≠ 6 → j ≠ 7 → j ≠ 9 → M2 517 j = M1 517 j := fun j a b d => by rw [← eM2, z_up_sl a, zCpy_ne (by decide), z_up_sl b, z_up_sl d]
        have z2 : ∀ z, z ≠ 517 → z ≠ 521 → M2 z = M1 z := fun z a b => by rw [← eM2, z_up_ne a, zCpy_ne b, z_up_ne a, z_up_ne a]
        have c2 : M2 517 7 = 0 := by rw [← eM2, z_up_sl (by decide), zCpy_ne (by decide), z_up_eq]
        have l2 : M2 517 9 = 0 := by rw [← eM2, z_up_sl (by decide), zCpy_ne (by decide), z_up_sl (by decide), z_up_eq]
        have w2 : M2 517 6 = 1 := by rw [← eM2, z_up_eq]
        have b2 : ∀ j, 0 ≤ j → j < 160 → M2 521 j = M 518 j := fun j a b => by
          rw [← eM2, z_up_ne (by decide), zCpy_in (by omega), z_up_ne (by decide), z_up_ne (by decide), g8]
          congr 1
          omega
        clear eM2
        have g2 : M2 518 = M 518 := (z2 518 (by decide) (by decide)).trans g8
        have H2 : zHm M2 := by
          unfold zHm at H1 ⊢
          rw [s2 0 (by decide) (by decide) (by decide), s2 1 (by decide) (by decide) (by decide), s2 2 (by decide) (by decide) (by decide), s2 3 (by decide) (by decide) (by decide), s2 8 (by decide) (by decide) (by decide), s2 12 (by decide) (by decide) (by decide), s2 14 (by decide) (by decide) (by decide), s2 15 (by decide) (by decide) (by decide), s2 16 (by decide) (by decide) (by decide), s2 17 (by decide) (by decide) (by decide), s2 22 (by decide) (by decide) (by decide)]
          exact H1
        have r2 : ∀ M3, zMw M2 M3 → zRf M (z_up M3 517 6 0) := fun M3 h => ⟨fun z a b d e f => by
          rw [z_up_ne a, h.1.1 z a b d (by omega) (by omega) (by omega) (by omega), z2 z a e]
          exact x1.1 z a (by omega), fun j a b d e f g => by
          by_cases ej : j = 6
          · rw [ej, z_up_eq, h6]
          · rw [z_up_sl ej, h.1.2 j a b (by omega) (by omega) (by omega), s2 j ej b d]
            exact x1.2 j (by omega) (by omega)⟩
        refine s_X12_execute_l H2 (T8.of (z2 522 (by decide) (by decide))) hl hE hN (ho.co hN) ((s2 23 (by decide) (by decide) (by decide)).trans x2) (fun j hj => (x3 j hj).of (fun i _ _ => congrFun (z2 528 (by decide) (by decide)) i)) (by rw [s2 5 (by decide) (by decide) (by decide), x1.2 5 (by decide) (by decide)]; exact h5) (by rw [w2]; decide) (by rw [g2]; exact hG) (fun ha v M3 hM hc hR => ?_) (fun k k0 ka kb v M3 hM hc => ?_) (N + 2) 0 0 M2 (by omega) (by omega) (zMw.r M2) c2 rfl (fun j hj => by omega)
        · rw [g2] at ha hR
          have H3 := hM.h H2
          have hr3 := r2 M3 hM
          refine s_X12_execute_y H3 hc ((hM.1.2 23 (by decide) (by decide) (by decide) (by decide) (by decide)).trans ((s2 23 (by decide) (by decide) (by decide)).trans x2)) (by rw [hM.2.2, s2 5 (by decide) (by decide) (by decide), x1.2 5 (by decide) (by decide)]; exact h5) (fun M4 y1 y2 y3 y4 => ?_)
          refine hy ha M4 ⟨fun z a b d e f => (y1 z a d).trans (hr3.1 z a b d e f), fun j a b d e f g => (y2 j a b).trans (hr3.2 j a b d e f g)⟩ ?_ y3 ?_ ?_ ?_ ?_
          · rw [y1 518 (by decide) (by decide), z_up_ne (by decide)]
            exact hR
          · rw [y2 9 (by decide) (by decide), z_up_sl (by decide), hM.1.2 9 (by decide) (by decide) (by decide) (by decide) (by decide)]
            exact l2
          · rw [y2 10 (by decide) (by decide), z_up_sl (by decide), hM.1.2 10 (by decide) (by decide) (by decide) (by decide) (by decide), s2 10 (by decide) (by decide) (by decide)]
            exact x1.2 10 (by decide) (by decide)
          · rw [y2 11 (by decide) (by decide), z_up_sl (by decide), hM.1.2 11 (by decide) (by decide) (by decide) (by decide) (by decide), s2 11 (by decide) (by decide) (by decide)]
            exact x1.2 11 (by decide) (by decide)
          · have e5 : z_up M3 517 6 0 517 5 = M 517 5 := by rw [z_up_sl (by decide), hM.2.2, s2 5 (by decide) (by decide) (by decide)]; exact x1.2 5 (by decide) (by decide)
            have e9 : z_up M3 517 6 0 519 = M 519 := by rw [z_up_ne (by decide), hM.2.1, z2 519 (by decide) (by decide)]; exact x1.1 519 (by decide) (by decide)
            have e1 : ∀ j, 0 ≤ j → j < 160 → z_up M3 517 6 0 521 j = M 518 j := fun j a b => by
              rw [z_up_ne (by decide), hM.1.1 521 (by decide) (by decide) (by decide) (by decide) (by decide) (by decide) (by decide)]
              exact b2 j a b
            unfold zKp at y4 ⊢
            rw [e5, e9, z_up_eq] at y4
            rcases y4 with ⟨q, _⟩ | ⟨_, q2, q3, q4, q5⟩ | ⟨_, q2, q3, q4, q5⟩
            · exact absurd rfl q
            · exact Or.inr (Or.inl ⟨h6, q2, q3, q4, fun j a b => (q5 j a b).trans (e1 j a b)⟩)
            · exact Or.inr (Or.inr ⟨h6, q2, q3, q4, fun j a b => (q5 j a b).trans (e1 j a b)⟩)
        · rw [g2] at ka kb
          have H3 := hM.h H2
          have hr3 := r2 M3 hM
          refine s_X12_execute_n H3 hc (by omega) (fun w M4 y1 y2 y3 y4 y5 => ?_)
          refine hx k k0 ka kb w M4 ⟨fun z a b d e f => (y1 z a b).trans (hr3.1 z a b d e f), fun j a b d e f g => (y2 j b f).trans (hr3.2 j a b d e f g)⟩ (fun j a b => ?_) y3 ?_ ?_ y4 ?_ ?_
          · rw [y5 j a b, hM.1.1 521 (by decide) (by decide) (by decide) (by decide) (by decide) (by decide) (by decide)]
            exact b2 j a b
          · rw [y2 9 (by decide) (by decide), z_up_sl (by decide), hM.1.2 9 (by decide) (by decide) (by decide) (by decide) (by decide)]
            exact l2
          · rw [y2 10 (by decide) (by decide), z_up_sl (by decide), hM.1.2 10 (by decide) (by decide) (by decide) (by decide) (by decide), s2 10 (by decide) (by decide) (by decide)]
            exact x1.2 10 (by decide) (by decide)
          · rw [y1 519 (by decide) (by decide), z_up_ne (by decide), hM.2.1, z2 519 (by decide) (by decide)]
            exact x1.1 519 (by decide) (by decide)
          · rw [y2 5 (by decide) (by decide), z_up_sl (by decide), hM.2.2, s2 5 (by decide) (by decide) (by decide)]
            exact x1.2 5 (by decide) (by decide)
      · exact absurd rfl h35
  · exact absurd (by decide) h6_
theorem s_X12_execute (H : zHm M) (hT : zTi9 M L) (hl : L.length ≤ 60) (hn : n = L.length) (hE : zEd (zCh9 L) n) {N : Nat} (hN : zLast (zCh9 L) N) (ho : zTok (zCh9 L) n N) (h5 : 0 ≤ M 517 5 ∧ M 517 5 ≤ 8) (h6 : M 517 6 = 0) (hG : zWF (M 518)) (ha : ∀ j : Nat, j < N + 1 → zXo9 (zGk (M 518) (zCh9 L) j) (zCh9 L) (zPs9 (zCh9 L) j)) :
    z_Call mX12_execute zF [(1, 517)] M (fun r S' M' => r = (0, (N : Int) + 1) ∧ S' = zF ∧ zRf M M' ∧ M' 518 = zGk (M 518) (zCh9 L) (N + 1) ∧ M' 517 7 = 0 ∧ M' 517 9 = 0 ∧ M' 517 10 = M 517 10 ∧ M' 517 11 = M 517 11 ∧ zKp M M' (M 518)) :=
  s_X12_execute_p H hT hl hn hE hN ho h5 h6 hG (fun _ M' a b d e f g h => ⟨rfl, rfl, a, b, d, e, f, g, h⟩) (fun k k0 _ h => absurd (ha k (by omega)) h)
theorem s_X12_execute_x (H : zHm M) (hT : zTi9 M L) (hl : L.length ≤ 60) (hn : n = L.length) (hE : zEd (zCh9 L) n) {N : Nat} (hN : zLast (zCh9 L) N) (ho : zTok (zCh9 L) n N) (h5 : 0 ≤ M 517 5 ∧ M 517 5 ≤ 8) (h6 : M 517 6 = 0) (hG : zWF (M 518)) {k : Nat} (hk : k ≤ N) (ha : ∀ j : Nat, j < k → zXo9 (zGk (M 518) (zCh9 L) j) (zCh9 L) (zPs9 (zCh9 L) j)) (hb : ¬ zXo9 (zGk (M 518) (zCh9 L) k) (zCh9 L) (zPs9 (zCh9 L) k)) :
    z_Call mX12_execute zF [(1, 517)] M (fun r S' M' => ∃ v, r = (0, v) ∧ S' = zF ∧ zRf M M' ∧ (∀ j, 0 ≤ j → j < 160 → M' 518 j = M 518 j) ∧ M' 517 7 = 2 ∧ M' 517 9 = 0 ∧ M' 517 10 = M 517 10 ∧ M' 517 11 = k ∧ M' 519 = M 519 ∧ M' 517 5 = M 517 5) :=
  s_X12_execute_p H hT hl hn hE hN ho h5 h6 hG (fun h => absurd (h k (by omega)) hb) (fun i i0 i1 i2 v M' a b d e f g h i9 => by
    have e9 : i = k := by
      by_cases h1 : i < k
      · exact absurd (ha i h1) i2
      · by_cases h2 : k < i
        · exact absurd (i1 k h2) hb
        · omega
    exact ⟨v, rfl, rfl, a, b, d, e, f, by rw [g, e9], h, i9⟩)
theorem s_X12_execute_m (H : zHm M) (hT : zTi9 M L) (hl : L.length ≤ 60) (hn : n = L.length) (hE : zEd (zCh9 L) n) {N : Nat} (hN : zLast (zCh9 L) N) (ho : ¬ zTok (zCh9 L) n N) :
    z_Call mX12_execute zF [(1, 517)] M (fun r S' M' => r = (0, 0) ∧ S' = zF ∧ (∀ z, z ≠ 517 → z ≠ 528 → M' z = M z) ∧ (∀ j, j ≠ 7 → j ≠ 9 → j ≠ 10 → j ≠ 21 → j ≠ 23 → M' 517 j = M 517 j) ∧ M' 517 7 = 1 ∧ M' 517 9 = 0 ∧ M' 517 10 = zCe (zCh9 L) (zPs9 (zCh9 L) N)) := by
  refine z_enter (k := 3) rfl rfl rfl ?_
  refine zp_al0 (q := 1) dX12_execute_0 rfl ?_
  refine zf_callV0 (k517) (s_X12_isText_x ⟨H, hT, hl⟩ hn hE hN ho) mtX12_isText wiX12_isText weX12_isText wlX12_253 (q := 4) dX12_execute_1 rfl rfl rfl rfl rfl rfl rfl (fun r S9 M9 h8 hP => ?_) (fun k S9 M9 hP => (z_no hP.1 rfl).elim)
  obtain ⟨rfl, rfl, x1, x2⟩ := hP
  refine zp_is1 (q := 5) dX12_execute_4 rfl rfl rfl ?_
  refine zp_il1 (q := 6) dX12_execute_5 rfl ?_
  refine zr_if_ne (q := 17) (q2 := 9) dX12_execute_6 (by decide) rfl (fun h6_ => ?_) (fun h6_ => ?_)
  · exact absurd rfl h6_
  · refine zp_al0 (q := 10) dX12_execute_9 rfl ?_
    refine zp_al0 (q := 11) dX12_execute_10 rfl ?_
    refine zf_getG (v := zCe (zCh9 L) (zPs9 (zCh9 L) N)) 21 (k517) (x2) rfl fdX12_170 (q := 14) dX12_execute_11 rfl rfl ?_
    refine zf_putG 10 (k517) rfl fpX12_25 (q := 17) dX12_execute_14 rfl rfl (by decide) (z_fit_i _) ?_
    refine zp_al0 (q := 18) dX12_execute_17 rfl ?_
    refine zr_iconst (q := 19) dX12_execute_18 rfl (z_in_of rfl) ?_
    refine zf_putG 9 (k517) rfl fpX12_167 (q := 22) dX12_execute_19 rfl rfl (by decide) (z_fit_i _) ?_
    refine zp_al0 (q := 23) dX12_execute_22 rfl ?_
    refine zp_il1 (q := 24) dX12_execute_23 rfl ?_
    refine zr_if_eq (q := 31) (q2 := 27) dX12_execute_24 (by decide) rfl (fun h24 => ?_) (fun h24 => ?_)
    · refine zr_iconst (q := 32) dX12_execute_31 rfl (z_in_of rfl) ?_
      refine zf_callV1 (k517) (s_X12_fails) mtX12_fails wiX12_fails weX12_fails wlX12_77 (q := 35) dX12_execute_32 rfl rfl rfl rfl rfl rfl rfl (fun r S9 M9 h8 hP => ?_) (fun k S9 M9 hP => (z_no hP.1 rfl).elim)
      obtain ⟨rfl, rfl, h9⟩ := hP
      subst M9
      rw [if_pos (by decide)]
      refine zr_if_eq (q := 40) (q2 := 38) dX12_execute_35 (by decide) rfl (fun h35 => ?_) (fun h35 => ?_)
      · exact absurd h35 (by decide)
      · refine zr_iconst (q := 39) dX12_execute_38 rfl (z_in_of rfl) ?_
        refine zr_ireturn dX12_execute_39 rfl (z_fit_i _) ?_
        exact ⟨rfl, rfl, fun z a b => by rw [z_up_ne a, z_up_ne a, z_up_ne a]; exact x1.1 z a b, fun j a b d e f => by rw [z_up_sl a, z_up_sl b, z_up_sl d]; exact x1.2 j e f, z_up_eq, by rw [z_up_sl (by decide), z_up_eq], by rw [z_up_sl (by decide), z_up_sl (by decide), z_up_eq]⟩
    · exact absurd rfl h24
end ZXE
