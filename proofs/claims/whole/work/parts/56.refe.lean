/-! dep: 50 51 52 53 54 55 -/
/-! ===== the reference: all rounds ===== -/
theorem zFl_ne (M : zM) (n : Int) (V : Int → Int) {z : Int} (h1 : z ≠ 517) (h2 : z ≠ 527) : zFl M n V z = M z := by
  unfold zFl
  split
  · rw [z_up_ne h1, z_up_ne h2]
  · rw [z_up_ne h2]
theorem zFl_517 (M : zM) (n : Int) (V : Int → Int) {j : Int} (h : j ≠ 20) : zFl M n V 517 j = M 517 j := by
  unfold zFl
  split
  · rw [z_up_sl h, z_up_ne (by decide)]
  · rw [z_up_ne (by decide)]
theorem zFl_20 (M : zM) (n : Int) (V : Int → Int) : zFl M n V 517 20 = if 2 ≤ zWc V then (5 * M 517 20 + 3) % 16 else M 517 20 := by
  unfold zFl
  split
  · rw [z_up_eq]
  · rw [z_up_ne (by decide)]
theorem zFl_527 (M : zM) (n : Int) (V : Int → Int) : zFl M n V 527 n = if 2 ≤ zWc V then 1 else 0 := by
  unfold zFl
  split
  · rw [z_up_ne (by decide), z_up_eq]
  · rw [z_up_eq]
theorem zFl_527n (M : zM) (n : Int) (V : Int → Int) {j : Int} (h : j ≠ n) : zFl M n V 527 j = M 527 j := by
  unfold zFl
  split
  · rw [z_up_ne (by decide), z_up_sl h]
  · rw [z_up_sl h]
section ZRE
variable {M : zM}
/-- round i stands in the reference's rows -/
def zMr (M : zM) (G : Int → Int) (i : Int) : Prop := (∀ w, 0 ≤ w → w < 8 → M 524 (8 * i + w) = zVr G i w) ∧ M 525 i = zXk G (zA G i) (G 1) ∧ M 526 i = zEl (zVr G i) (zP G i) ∧ M 527 i = zTi (zVr G i)
def zMc (M M' : zM) (G : Int → Int) (S n : Int) : Prop := (∀ z, z ≠ 517 → z ≠ 524 → z ≠ 525 → z ≠ 526 → z ≠ 527 → M' z = M z) ∧ (∀ j, j ≠ 18 → j ≠ 19 → j ≠ 20 → M' 517 j = M 517 j) ∧ M' 517 18 = n ∧ M' 517 20 = zP G n ∧ ((n = 0 → M' 517 19 = -1) ∧ (0 < n → M' 517 19 = zWn (zVr G (n - 1)))) ∧ (∀ i, 0 ≤ i → i < n → zMr M' G i) ∧ (∀ j, 0 ≤ j → j < n - 1 → zWn (zVr G j) = -1) ∧ ((n = 0 ∨ zWn (zVr G (n - 1)) = -1) → zBits S (zA G n)) ∧ (1 ≤ n → 1 ≤ zSt G)
/-- the reference has counted -/
def zMt (M M' : zM) (G : Int → Int) : Prop := (∀ z, z ≠ 517 → z ≠ 524 → z ≠ 525 → z ≠ 526 → z ≠ 527 → M' z = M z) ∧ (∀ j, j ≠ 18 → j ≠ 19 → j ≠ 20 → M' 517 j = M 517 j) ∧ M' 517 18 = zRn G ∧ M' 517 19 = zW G ∧ M' 517 20 = zP G (zRn G) ∧ ∀ i, 0 ≤ i → i < zRn G → zMr M' G i
theorem zEl_Ix {V : Int → Int} (h : zWn V = -1) (s : Int) : zEl V s = zNth V (zFw V) (zIx V s) := by
  unfold zEl zIx
  rw [if_pos h]
theorem zIx_congr {V W : Int → Int} (h : ∀ w, 0 ≤ w → w < 8 → V w = W w) (s : Int) : zIx V s = zIx W s := by
  unfold zIx
  rw [zWc_congr h]
theorem s_X12_counts_l (H : zHm M) (hG : zWF (M 518)) {bc bs : Nat} : ∀ (m : Nat) (n S : Int) (M' : zM), 0 ≤ n → n ≤ 8 → 8 - n < m → zMc M M' (M 518) S n →
    z_Ex mX12_counts zF 58 [(1, 517), (0, S), (0, M 518 0)] [] M' bc bs (fun r S' M' => r = (9, 0) ∧ S' = zF ∧ zMt M M' (M 518)) := by
  have hn1 := hG.n
  have hw8 := hG.w
  have hst := zSt_range hG
  intro m
  induction m with
  | zero => intro n S M' h0 h1 h2; omega
  | succ m ih =>
    intro n S M' h0 h1 h2 hI
    obtain ⟨i1, i2, i3, i4, i5, i6, i7, i8, i9⟩ := id hI
    have e8 : M' 518 = M 518 := i1 518 (by decide) (by decide) (by decide) (by decide) (by decide)
    have H' : zHm M' := H.of (fun j _ _ j1 j2 j3 => i2 j j1 j2 j3)
    have hG' : zWF (M' 518) := by rw [e8]; exact hG
    have hend : S = 0 ∨ 0 ≤ M' 517 19 → zMt M M' (M 518) := by
      intro hE
      by_cases hs : zSt (M 518) = 0
      · have hn0 : n = 0 := by omega
        subst hn0
        have er : zRn (M 518) = 0 := if_pos hs
        exact ⟨i1, i2, by rw [er]; exact i3, by rw [i5.1 rfl]; exact (if_pos hs).symm, by rw [er]; exact i4, fun i a b => by omega⟩
      · have hw9 : ¬ (n = 0 ∨ zWn (zVr (M 518) (n - 1)) = -1) := by
          intro hgo
          have h6 : ∀ j, 0 ≤ j → j < n → zWn (zVr (M 518) j) = -1 := fun j j0 j1 => by
            by_cases e : j = n - 1
            · rcases hgo with g | g
              · omega
              · rw [e]; exact g
            · exact i7 j j0 (by omega)
          obtain ⟨hlt, w, w0, w1, w2⟩ := zA_alive hG (by omega) h0 h1 h6
          rcases hE with hE | hE
          · rw [(i8 hgo).none hE w w0 w1] at w2
            cases w2
          · by_cases c : n = 0
            · rw [i5.1 c] at hE; omega
            · rw [i5.2 (by omega), h6 (n - 1) (by omega) (by omega)] at hE; omega
        have hn : 1 ≤ n := by omega
        have er : zRn (M 518) = n := zRn_eq hG (by omega) hn h1 i7 (fun c => hw9 (Or.inr c))
        have ew : zW (M 518) = zWn (zVr (M 518) (n - 1)) := by unfold zW; rw [if_neg hs, er]
        exact ⟨i1, i2, by rw [er]; exact i3, by rw [ew]; exact i5.2 (by omega), by rw [er]; exact i4, by rw [er]; exact i6⟩
    have hgo : S ≠ 0 → M' 517 19 < 0 → n = 0 ∨ zWn (zVr (M 518) (n - 1)) = -1 := by
      intro hS hw
      by_cases c : n = 0
      · exact Or.inl c
      · refine Or.inr (Classical.byContradiction fun c2 => ?_)
        have := zWn_range c2
        rw [i5.2 (by omega)] at hw
        omega
    have hstep : S ≠ 0 → M' 517 19 < 0 → n < 8 ∧ n < zSt (M 518) ∧ zBits S (zA (M 518) n) ∧ ∀ j, 0 ≤ j → j < n → zWn (zVr (M 518) j) = -1 := by
      intro hS hw
      have g := hgo hS hw
      have h6 : ∀ j, 0 ≤ j → j < n → zWn (zVr (M 518) j) = -1 := fun j j0 j1 => by
        by_cases e : j = n - 1
        · rcases g with g | g
          · omega
          · rw [e]; exact g
        · exact i7 j j0 (by omega)
      have hs : 1 ≤ zSt (M 518) := by
        by_cases c : n = 0
        · obtain ⟨k, k0, k1, k2⟩ := (i8 g).some hS
          subst c
          have c1 := of_decide_eq_true (show zA0 (M 518) k = true from k2)
          have c2 := zU_pos (f := fun w => if M 518 (4 + w) = 0 then 1 else 0) (n := M 518 0) (i := k) (fun _ _ _ => by split <;> omega) c1.1 c1.2.1
          rw [if_pos c1.2.2] at c2
          exact c2
        · exact i9 (by omega)
      have := zA_alive hG hs h0 h1 h6
      exact ⟨by omega, this.1, i8 g, h6⟩
    refine zp_il1 (q := 59) dX12_counts_58 rfl ?_
    refine zr_if_eq (q := 166) (q2 := 62) dX12_counts_59 (by decide) rfl (fun h59 => ?_) (fun h59 => ?_)
    · refine zr_return dX12_counts_166 rfl ?_
      exact ⟨rfl, rfl, hend (by omega)⟩
    · refine zp_al0 (q := 63) dX12_counts_62 rfl ?_
      refine zf_getG (v := M' 517 19) 19 (k517) (rfl) rfl fdX12_116 (q := 66) dX12_counts_63 rfl rfl ?_
      refine zr_if_ge (q := 166) (q2 := 69) dX12_counts_66 (by decide) rfl (fun h66 => ?_) (fun h66 => ?_)
      · refine zr_return dX12_counts_166 rfl ?_
        exact ⟨rfl, rfl, hend (by omega)⟩
      · obtain ⟨n8, nS, hB, h6⟩ := hstep h59 (by omega)
        obtain ⟨w, w0, w1, w2⟩ := (zA_alive hG (by omega) h0 h1 h6).2
        refine zp_al0 (q := 70) dX12_counts_69 rfl ?_
        refine zp_il1 (q := 71) dX12_counts_70 rfl ?_
        refine zf_callV1 (k517) (s_X12_countsRound H' hG' ⟨h0, n8⟩ i3 hB) mtX12_countsRound wiX12_countsRound weX12_countsRound wlX12_119 (q := 74) dX12_counts_71 rfl rfl rfl rfl rfl rfl rfl (fun r S9 M9 h8 hP => ?_) (fun k S9 M9 hP => (z_no hP.1 rfl).elim)
        obtain ⟨rfl, rfl, hJ⟩ := hP
        rw [e8] at hJ
        have ex : ∃ M1, M1 = M9 := ⟨M9, rfl⟩
        obtain ⟨M1, e1⟩ := ex
        rw [← e1] at hJ ⊢
        clear e1 M9
        obtain ⟨j1, j2, j3, j4, j5⟩ := id hJ
        have x517 : M1 517 = M' 517 := j1 517 (by decide) (by decide)
        have hV : ∀ w, 0 ≤ w → w < 8 → M1 524 (8 * n + w) = zVr (M 518) n w := j2
        have H1 : zHm M1 := H'.of (fun j _ _ _ _ _ => congrFun x517 j)
        have H2 : ∀ v, zHm (z_up M1 517 19 v) := fun v => H1
        have H3 : ∀ v u, zHm (z_up (z_up M1 517 19 v) 527 n u) := fun v u => H1.of (fun j _ _ _ j19 _ => by rw [z_up_ne (by decide), z_up_sl j19])
        refine zp_al0 (q := 75) dX12_counts_74 rfl ?_
        refine zp_al0 (q := 76) dX12_counts_75 rfl ?_
        refine zr_bipush (q := 78) dX12_counts_76 rfl (z_in_of rfl) (by decide +kernel) ?_
        refine zp_al0 (q := 79) dX12_counts_78 rfl ?_
        refine zf_getG (v := n) 18 (k517) (by rw [x517]; exact i3) rfl fdX12_110 (q := 82) dX12_counts_79 rfl rfl ?_
        refine zr_imul (q := 83) dX12_counts_82 rfl (fun hA hB => by unfold z_in at hA hB ⊢; omega) ?_
        refine zf_callV1 (k517) (s_X12_wins H1 (by omega) (fun w w0 w1 => by rw [hV w w0 w1]; exact zVo_range hG _ w)) mtX12_wins wiX12_wins weX12_wins wlX12_123 (q := 86) dX12_counts_83 rfl rfl rfl rfl rfl rfl rfl (fun r S9 M9 h8 hP => ?_) (fun k S9 M9 hP => (z_no hP.1 rfl).elim)
        obtain ⟨rfl, rfl, h9⟩ := hP
        subst M9
        rw [zWn_congr (W := zVr (M 518) n) hV]
        have hVw : ∀ w, 0 ≤ w → w < 8 → z_up (z_up M1 517 19 (zWn (zVr (M 518) n))) 527 n 0 524 (8 * n + w) = zVr (M 518) n w := fun w w0 w1 => by rw [z_up_ne (by decide), z_up_ne (by decide)]; exact hV w w0 w1
        refine zf_putG 19 (k517) rfl fpX12_116 (q := 89) dX12_counts_86 rfl rfl (by decide) (z_fit_i _) ?_
        refine zp_al0 (q := 90) dX12_counts_89 rfl ?_
        refine zf_getG (v := 527) 17 (k517) ((H2 _).2.2.2.2.2.2.2.2.2.1) rfl fdX12_45 (q := 93) dX12_counts_90 rfl rfl ?_
        refine zp_al0 (q := 94) dX12_counts_93 rfl ?_
        refine zf_getG (v := n) 18 (k517) (by rw [z_up_sl (by decide), x517]; exact i3) rfl fdX12_110 (q := 97) dX12_counts_94 rfl rfl ?_
        refine zr_iconst (q := 98) dX12_counts_97 rfl (z_in_of rfl) ?_
        refine zf_zast (by first | assumption | exact k518 | exact k519 | exact k520 | exact k521 | exact k522 | exact k523 | exact k524 | exact k525 | exact k526 | exact k527 | exact k528 | exact k510 | exact k512 | exact k515 | exact k516 | exact k507 | exact k509 | exact k135 | exact k489 | exact k529 | exact k530) (q := 99) dX12_counts_98 rfl (by omega) (by omega) (by decide) ?_
        refine zp_al0 (q := 100) dX12_counts_99 rfl ?_
        refine zf_getG (v := 526) 16 (k517) ((H3 _ _).2.2.2.2.2.2.2.2.1) rfl fdX12_42 (q := 103) dX12_counts_100 rfl rfl ?_
        refine zp_al0 (q := 104) dX12_counts_103 rfl ?_
        refine zf_getG (v := n) 18 (k517) (by rw [z_up_ne (by decide), z_up_sl (by decide), x517]; exact i3) rfl fdX12_110 (q := 107) dX12_counts_104 rfl rfl ?_
        refine zp_al0 (q := 108) dX12_counts_107 rfl ?_
        refine zf_getG (v := zWn (zVr (M 518) n)) 19 (k517) (by rw [z_up_ne (by decide), z_up_eq]) rfl fdX12_116 (q := 111) dX12_counts_108 rfl rfl ?_
        refine zr_if_ge (q := 128) (q2 := 114) dX12_counts_111 (by decide) rfl (fun h111 => ?_) (fun h111 => ?_)
        · refine zr_iconst (q := 129) dX12_counts_128 rfl (z_in_of rfl) ?_
          refine zf_iast (by first | assumption | exact k518 | exact k519 | exact k520 | exact k521 | exact k522 | exact k523 | exact k524 | exact k525 | exact k526 | exact k527 | exact k528 | exact k510 | exact k512 | exact k515 | exact k516 | exact k507 | exact k509 | exact k135 | exact k489 | exact k529 | exact k530) (q := 130) dX12_counts_129 rfl (by omega) (by omega) ?_
          refine zp_al0 (q := 131) dX12_counts_130 rfl ?_
          refine zf_getG (v := zWn (zVr (M 518) n)) 19 (k517) (by first | (rw [z_up_ne (by decide), e4, zFl_517 _ _ _ (by decide), z_up_ne (by decide), z_up_eq]) | (rw [z_up_ne (by decide), z_up_ne (by decide), z_up_eq])) rfl fdX12_116 (q := 134) dX12_counts_131 rfl rfl ?_
          refine zr_if_ge (q := 153) (q2 := 137) dX12_counts_134 (by decide) rfl (fun h134 => ?_) (fun h134 => ?_)
          · first
            | (exfalso; omega)
            | (refine zp_al0 (q := 154) dX12_counts_153 rfl ?_
               refine zr_dup (q := 155) dX12_counts_154 rfl (Or.inr rfl) ?_
               refine zf_getG (v := n) 18 (k517) (by first | (rw [z_up_ne (by decide), e4, zFl_517 _ _ _ (by decide), z_up_ne (by decide), z_up_sl (by decide), x517]; exact i3) | (rw [z_up_ne (by decide), z_up_ne (by decide), z_up_sl (by decide), x517]; exact i3)) rfl fdX12_110 (q := 158) dX12_counts_155 rfl rfl ?_
               refine zr_iconst (q := 159) dX12_counts_158 rfl (z_in_of rfl) ?_
               refine zr_iadd (q := 160) dX12_counts_159 rfl (fun hA hB => by unfold z_in at hA hB ⊢; omega) ?_
               refine zf_putG 18 (k517) rfl fpX12_110 (q := 163) dX12_counts_160 rfl rfl (by decide) (z_fit_i _) ?_
               refine zr_goto (q := 58) dX12_counts_163 (by decide) ?_
               first
               | (have t : 0 ≤ zWn (zVr (M 518) n) := by omega
                  generalize hM6 : z_up (z_up (z_up (z_up M1 517 19 (zWn (zVr (M 518) n))) 527 n 0) 526 n (-1)) 517 18 (n + 1) = M6
                  have f1 : ∀ z, z ≠ 517 → z ≠ 526 → z ≠ 527 → M6 z = M1 z := fun z z1 z2 z3 => by rw [← hM6, z_up_ne z1, z_up_ne z2, z_up_ne z3, z_up_ne z1]
                  have f2 : ∀ j, j ≠ 18 → j ≠ 19 → M6 517 j = M' 517 j := fun j a1 a2 => by rw [← hM6, z_up_sl a1, z_up_ne (by decide), z_up_ne (by decide), z_up_sl a2, x517]
                  refine ih (n + 1) S M6 (by omega) (by omega) (by omega) ⟨fun z z1 z2 z3 z4 z5 => by rw [f1 z z1 z4 z5, j1 z z2 z3]; exact i1 z z1 z2 z3 z4 z5, fun j a1 a2 a3 => by rw [f2 j a1 a2]; exact i2 j a1 a2 a3, by rw [← hM6, z_up_eq], ?_, ⟨fun c => by omega, fun _ => by rw [← hM6, z_up_sl (by decide), z_up_ne (by decide), z_up_ne (by decide), z_up_eq, show n + 1 - 1 = n by omega]⟩, fun i a b => ?_, fun j a b => h6 j a (by omega), fun c => ?_, fun _ => by omega⟩
                  · rw [f2 20 (by decide) (by decide), i4, zP_s _ h0]
                    unfold zSn
                    rw [if_neg (by omega)]
                  · by_cases ei : i = n
                    · subst ei
                      refine ⟨fun w w0 w1 => by rw [f1 524 (by decide) (by decide) (by decide)]; exact hV w w0 w1, by rw [f1 525 (by decide) (by decide) (by decide)]; exact j4, by rw [← hM6, z_up_ne (by decide), z_up_eq]; unfold zEl; rw [if_neg (by omega)], by rw [← hM6, z_up_ne (by decide), z_up_ne (by decide), z_up_eq]; unfold zTi; rw [if_neg (by omega)]⟩
                    · have h9 := i6 i a (by omega)
                      refine ⟨fun w w0 w1 => by rw [f1 524 (by decide) (by decide) (by decide), j3 _ (by omega), ]; exact h9.1 w w0 w1, by rw [f1 525 (by decide) (by decide) (by decide), j5 i (by omega)]; exact h9.2.1, by rw [← hM6, z_up_ne (by decide), z_up_sl ei, z_up_ne (by decide), z_up_ne (by decide), j1 526 (by decide) (by decide)]; exact h9.2.2.1, by rw [← hM6, z_up_ne (by decide), z_up_ne (by decide), z_up_sl ei, z_up_ne (by decide), j1 527 (by decide) (by decide)]; exact h9.2.2.2⟩
                  · rw [show n + 1 - 1 = n by omega] at c
                    omega)
               | (have f4 : ∀ z, z ≠ 517 → z ≠ 527 → M4 z = M1 z := fun z z1 z2 => by rw [e4, zFl_ne _ _ _ z1 z2, z_up_ne z2, z_up_ne z1]
                  have f5 : ∀ j, j ≠ 19 → j ≠ 20 → M4 517 j = M' 517 j := fun j a1 a2 => by rw [e4, zFl_517 _ _ _ a2, z_up_ne (by decide), z_up_sl a1, x517]
                  have f6 : M4 517 20 = if 2 ≤ zWc (zVr (M 518) n) then (5 * zP (M 518) n + 3) % 16 else zP (M 518) n := by
                    rw [e4, zFl_20, zWc_congr hVw, show z_up (z_up M1 517 19 (zWn (zVr (M 518) n))) 527 n 0 517 20 = zP (M 518) n by rw [z_up_ne (by decide), z_up_sl (by decide), x517]; exact i4]
                  have f7 : M4 527 n = if 2 ≤ zWc (zVr (M 518) n) then 1 else 0 := by rw [e4, zFl_527, zWc_congr hVw]
                  have f8 : ∀ j, j ≠ n → M4 527 j = M' 527 j := fun j a1 => by rw [e4, zFl_527n _ _ _ a1, z_up_sl a1, z_up_ne (by decide), j1 527 (by decide) (by decide)]
                  have f9 : M4 517 19 = zWn (zVr (M 518) n) := by rw [e4, zFl_517 _ _ _ (by decide), z_up_ne (by decide), z_up_eq]
                  clear e4
                  generalize hM6 : z_up (z_up M4 526 n (zEl (zVr (M 518) n) (zP (M 518) n))) 517 18 (n + 1) = M6
                  have f1 : ∀ z, z ≠ 517 → z ≠ 526 → z ≠ 527 → M6 z = M1 z := fun z z1 z2 z3 => by rw [← hM6, z_up_ne z1, z_up_ne z2, f4 z z1 z3]
                  have f2 : ∀ j, j ≠ 18 → j ≠ 19 → j ≠ 20 → M6 517 j = M' 517 j := fun j a1 a2 a3 => by rw [← hM6, z_up_sl a1, z_up_ne (by decide), f5 j a2 a3]
                  refine ih (n + 1) _ M6 (by omega) (by omega) (by omega) ⟨fun z z1 z2 z3 z4 z5 => by rw [f1 z z1 z4 z5, j1 z z2 z3]; exact i1 z z1 z2 z3 z4 z5, fun j a1 a2 a3 => by rw [f2 j a1 a2 a3]; exact i2 j a1 a2 a3, by rw [← hM6, z_up_eq], ?_, ⟨fun c => by omega, fun _ => by rw [← hM6, z_up_sl (by decide), z_up_ne (by decide), f9, show n + 1 - 1 = n by omega]⟩, fun i a b => ?_, fun j a b => h6 j a (by omega), fun c => ?_, fun _ => by omega⟩
                  · rw [← hM6, z_up_sl (by decide), z_up_ne (by decide), f6, zP_s _ h0]
                    unfold zSn
                    by_cases c2 : 2 ≤ zWc (zVr (M 518) n)
                    · rw [if_pos c2, if_pos ⟨hlose, c2⟩]
                    · rw [if_neg c2, if_neg (fun c3 => c2 c3.2)]
                  · by_cases ei : i = n
                    · subst ei
                      refine ⟨fun w w0 w1 => by rw [f1 524 (by decide) (by decide) (by decide)]; exact hV w w0 w1, by rw [f1 525 (by decide) (by decide) (by decide)]; exact j4, by rw [← hM6, z_up_ne (by decide), z_up_eq], ?_⟩
                      rw [← hM6, z_up_ne (by decide), z_up_ne (by decide), f7]
                      unfold zTi
                      by_cases c2 : 2 ≤ zWc (zVr (M 518) i)
                      · rw [if_pos c2, if_pos ⟨hlose, c2⟩]
                      · rw [if_neg c2, if_neg (fun c3 => c2 c3.2)]
                    · have h9 := i6 i a (by omega)
                      refine ⟨fun w w0 w1 => by rw [f1 524 (by decide) (by decide) (by decide), j3 _ (by omega)]; exact h9.1 w w0 w1, by rw [f1 525 (by decide) (by decide) (by decide), j5 i (by omega)]; exact h9.2.1, by rw [← hM6, z_up_ne (by decide), z_up_sl ei, f4 526 (by decide) (by decide), j1 526 (by decide) (by decide)]; exact h9.2.2.1, by rw [← hM6, z_up_ne (by decide), z_up_ne (by decide), f8 i ei]; exact h9.2.2.2⟩
                  · rw [zA_s _ h0]
                    exact hB.del hel.1 hel.2.1))
          · first
            | (exfalso; omega)
            | (refine zp_il1 (q := 138) dX12_counts_137 rfl ?_
               refine zr_iconst (q := 139) dX12_counts_138 rfl (z_in_of rfl) ?_
               refine zp_al0 (q := 140) dX12_counts_139 rfl ?_
               refine zf_getG (v := 526) 16 (k517) (by rw [z_up_ne (by decide), e4, zFl_517 _ _ _ (by decide)]; exact (H3 _ _).2.2.2.2.2.2.2.2.1) rfl fdX12_42 (q := 143) dX12_counts_140 rfl rfl ?_
               refine zp_al0 (q := 144) dX12_counts_143 rfl ?_
               refine zf_getG (v := n) 18 (k517) (by rw [z_up_ne (by decide), e4, zFl_517 _ _ _ (by decide), z_up_ne (by decide), z_up_sl (by decide), x517]; exact i3) rfl fdX12_110 (q := 147) dX12_counts_144 rfl rfl ?_
               refine zf_iald (v := zEl (zVr (M 518) n) (zP (M 518) n)) (by first | assumption | exact k518 | exact k519 | exact k520 | exact k521 | exact k522 | exact k523 | exact k524 | exact k525 | exact k526 | exact k527 | exact k528 | exact k510 | exact k512 | exact k515 | exact k516 | exact k507 | exact k509 | exact k135 | exact k489 | exact k529 | exact k530) (z_up_eq) (q := 148) dX12_counts_147 rfl (by omega) (by omega) ?_
               refine zr_ishl (q := 149) hel.1 hel.2.1 dX12_counts_148 rfl ?_
               refine zr_iconst (q := 150) dX12_counts_149 rfl (z_in_of rfl) ?_
               refine zr_inot (q := 151) hel.1 hel.2.1 dX12_counts_150 rfl ?_
               refine zr_iandn (q := 152) hB.1.1 hB.1.2 hel.1 hel.2.1 dX12_counts_151 rfl ?_
               refine zp_is1 (q := 153) dX12_counts_152 rfl rfl rfl ?_
               refine zp_al0 (q := 154) dX12_counts_153 rfl ?_
               refine zr_dup (q := 155) dX12_counts_154 rfl (Or.inr rfl) ?_
               refine zf_getG (v := n) 18 (k517) (by first | (rw [z_up_ne (by decide), e4, zFl_517 _ _ _ (by decide), z_up_ne (by decide), z_up_sl (by decide), x517]; exact i3) | (rw [z_up_ne (by decide), z_up_ne (by decide), z_up_sl (by decide), x517]; exact i3)) rfl fdX12_110 (q := 158) dX12_counts_155 rfl rfl ?_
               refine zr_iconst (q := 159) dX12_counts_158 rfl (z_in_of rfl) ?_
               refine zr_iadd (q := 160) dX12_counts_159 rfl (fun hA hB => by unfold z_in at hA hB ⊢; omega) ?_
               refine zf_putG 18 (k517) rfl fpX12_110 (q := 163) dX12_counts_160 rfl rfl (by decide) (z_fit_i _) ?_
               refine zr_goto (q := 58) dX12_counts_163 (by decide) ?_
               first
               | (have t : 0 ≤ zWn (zVr (M 518) n) := by omega
                  generalize hM6 : z_up (z_up (z_up (z_up M1 517 19 (zWn (zVr (M 518) n))) 527 n 0) 526 n (-1)) 517 18 (n + 1) = M6
                  have f1 : ∀ z, z ≠ 517 → z ≠ 526 → z ≠ 527 → M6 z = M1 z := fun z z1 z2 z3 => by rw [← hM6, z_up_ne z1, z_up_ne z2, z_up_ne z3, z_up_ne z1]
                  have f2 : ∀ j, j ≠ 18 → j ≠ 19 → M6 517 j = M' 517 j := fun j a1 a2 => by rw [← hM6, z_up_sl a1, z_up_ne (by decide), z_up_ne (by decide), z_up_sl a2, x517]
                  refine ih (n + 1) S M6 (by omega) (by omega) (by omega) ⟨fun z z1 z2 z3 z4 z5 => by rw [f1 z z1 z4 z5, j1 z z2 z3]; exact i1 z z1 z2 z3 z4 z5, fun j a1 a2 a3 => by rw [f2 j a1 a2]; exact i2 j a1 a2 a3, by rw [← hM6, z_up_eq], ?_, ⟨fun c => by omega, fun _ => by rw [← hM6, z_up_sl (by decide), z_up_ne (by decide), z_up_ne (by decide), z_up_eq, show n + 1 - 1 = n by omega]⟩, fun i a b => ?_, fun j a b => h6 j a (by omega), fun c => ?_, fun _ => by omega⟩
                  · rw [f2 20 (by decide) (by decide), i4, zP_s _ h0]
                    unfold zSn
                    rw [if_neg (by omega)]
                  · by_cases ei : i = n
                    · subst ei
                      refine ⟨fun w w0 w1 => by rw [f1 524 (by decide) (by decide) (by decide)]; exact hV w w0 w1, by rw [f1 525 (by decide) (by decide) (by decide)]; exact j4, by rw [← hM6, z_up_ne (by decide), z_up_eq]; unfold zEl; rw [if_neg (by omega)], by rw [← hM6, z_up_ne (by decide), z_up_ne (by decide), z_up_eq]; unfold zTi; rw [if_neg (by omega)]⟩
                    · have h9 := i6 i a (by omega)
                      refine ⟨fun w w0 w1 => by rw [f1 524 (by decide) (by decide) (by decide), j3 _ (by omega), ]; exact h9.1 w w0 w1, by rw [f1 525 (by decide) (by decide) (by decide), j5 i (by omega)]; exact h9.2.1, by rw [← hM6, z_up_ne (by decide), z_up_sl ei, z_up_ne (by decide), z_up_ne (by decide), j1 526 (by decide) (by decide)]; exact h9.2.2.1, by rw [← hM6, z_up_ne (by decide), z_up_ne (by decide), z_up_sl ei, z_up_ne (by decide), j1 527 (by decide) (by decide)]; exact h9.2.2.2⟩
                  · rw [show n + 1 - 1 = n by omega] at c
                    omega)
               | (have f4 : ∀ z, z ≠ 517 → z ≠ 527 → M4 z = M1 z := fun z z1 z2 => by rw [e4, zFl_ne _ _ _ z1 z2, z_up_ne z2, z_up_ne z1]
                  have f5 : ∀ j, j ≠ 19 → j ≠ 20 → M4 517 j = M' 517 j := fun j a1 a2 => by rw [e4, zFl_517 _ _ _ a2, z_up_ne (by decide), z_up_sl a1, x517]
                  have f6 : M4 517 20 = if 2 ≤ zWc (zVr (M 518) n) then (5 * zP (M 518) n + 3) % 16 else zP (M 518) n := by
                    rw [e4, zFl_20, zWc_congr hVw, show z_up (z_up M1 517 19 (zWn (zVr (M 518) n))) 527 n 0 517 20 = zP (M 518) n by rw [z_up_ne (by decide), z_up_sl (by decide), x517]; exact i4]
                  have f7 : M4 527 n = if 2 ≤ zWc (zVr (M 518) n) then 1 else 0 := by rw [e4, zFl_527, zWc_congr hVw]
                  have f8 : ∀ j, j ≠ n → M4 527 j = M' 527 j := fun j a1 => by rw [e4, zFl_527n _ _ _ a1, z_up_sl a1, z_up_ne (by decide), j1 527 (by decide) (by decide)]
                  have f9 : M4 517 19 = zWn (zVr (M 518) n) := by rw [e4, zFl_517 _ _ _ (by decide), z_up_ne (by decide), z_up_eq]
                  clear e4
                  generalize hM6 : z_up (z_up M4 526 n (zEl (zVr (M 518) n) (zP (M 518) n))) 517 18 (n + 1) = M6
                  have f1 : ∀ z, z ≠ 517 → z ≠ 526 → z ≠ 527 → M6 z = M1 z := fun z z1 z2 z3 => by rw [← hM6, z_up_ne z1, z_up_ne z2, f4 z z1 z3]
                  have f2 : ∀ j, j ≠ 18 → j ≠ 19 → j ≠ 20 → M6 517 j = M' 517 j := fun j a1 a2 a3 => by rw [← hM6, z_up_sl a1, z_up_ne (by decide), f5 j a2 a3]
                  refine ih (n + 1) _ M6 (by omega) (by omega) (by omega) ⟨fun z z1 z2 z3 z4 z5 => by rw [f1 z z1 z4 z5, j1 z z2 z3]; exact i1 z z1 z2 z3 z4 z5, fun j a1 a2 a3 => by rw [f2 j a1 a2 a3]; exact i2 j a1 a2 a3, by rw [← hM6, z_up_eq], ?_, ⟨fun c => by omega, fun _ => by rw [← hM6, z_up_sl (by decide), z_up_ne (by decide), f9, show n + 1 - 1 = n by omega]⟩, fun i a b => ?_, fun j a b => h6 j a (by omega), fun c => ?_, fun _ => by omega⟩
                  · rw [← hM6, z_up_sl (by decide), z_up_ne (by decide), f6, zP_s _ h0]
                    unfold zSn
                    by_cases c2 : 2 ≤ zWc (zVr (M 518) n)
                    · rw [if_pos c2, if_pos ⟨hlose, c2⟩]
                    · rw [if_neg c2, if_neg (fun c3 => c2 c3.2)]
                  · by_cases ei : i = n
                    · subst ei
                      refine ⟨fun w w0 w1 => by rw [f1 524 (by decide) (by decide) (by decide)]; exact hV w w0 w1, by rw [f1 525 (by decide) (by decide) (by decide)]; exact j4, by rw [← hM6, z_up_ne (by decide), z_up_eq], ?_⟩
                      rw [← hM6, z_up_ne (by decide), z_up_ne (by decide), f7]
                      unfold zTi
                      by_cases c2 : 2 ≤ zWc (zVr (M 518) i)
                      · rw [if_pos c2, if_pos ⟨hlose, c2⟩]
                      · rw [if_neg c2, if_neg (fun c3 => c2 c3.2)]
                    · have h9 := i6 i a (by omega)
                      refine ⟨fun w w0 w1 => by rw [f1 524 (by decide) (by decide) (by decide), j3 _ (by omega)]; exact h9.1 w w0 w1, by rw [f1 525 (by decide) (by decide) (by decide), j5 i (by omega)]; exact h9.2.1, by rw [← hM6, z_up_ne (by decide), z_up_sl ei, f4 526 (by decide) (by decide), j1 526 (by decide) (by decide)]; exact h9.2.2.1, by rw [← hM6, z_up_ne (by decide), z_up_ne (by decide), f8 i ei]; exact h9.2.2.2⟩
                  · rw [zA_s _ h0]
                    exact hB.del hel.1 hel.2.1))
        · have hlose : zWn (zVr (M 518) n) = -1 := Classical.byContradiction fun c => by have := zWn_range c; omega
          have hel := zEl_ex (V := zVr (M 518) n) (s := zP (M 518) n) w0 w1 (fun e => by rw [(zVo_ne hG _ w).mp e] at w2; cases w2) hlose (zP_range hG h0).1
          refine zp_al0 (q := 115) dX12_counts_114 rfl ?_
          refine zr_bipush (q := 117) dX12_counts_115 rfl (z_in_of rfl) (by decide +kernel) ?_
          refine zp_al0 (q := 118) dX12_counts_117 rfl ?_
          refine zf_getG (v := n) 18 (k517) (by rw [z_up_ne (by decide), z_up_sl (by decide), x517]; exact i3) rfl fdX12_110 (q := 121) dX12_counts_118 rfl rfl ?_
          refine zr_imul (q := 122) dX12_counts_121 rfl (fun hA hB => by unfold z_in at hA hB ⊢; omega) ?_
          refine zf_callV1 (k517) (s_X12_falls (H3 _ _) ⟨h0, n8⟩ (by rw [z_up_ne (by decide), z_up_sl (by decide), x517]; exact i3) (by rw [z_up_ne (by decide), z_up_sl (by decide), x517, i4]; exact zP_range hG h0) (fun w w0 w1 => by rw [hVw w w0 w1]; exact zVo_range hG _ w) ⟨w, w0, w1, fun e => by rw [hVw w w0 w1] at e; rw [(zVo_ne hG _ w).mp e] at w2; cases w2⟩) mtX12_falls wiX12_falls weX12_falls wlX12_127 (q := 125) dX12_counts_122 rfl rfl rfl rfl rfl rfl rfl (fun r S9 M9 h8 hP => ?_) (fun k S9 M9 hP => (z_no hP.1 rfl).elim)
          obtain ⟨rfl, rfl, h9⟩ := hP
          subst M9
          rw [zFw_congr hVw, zNth_congr hVw, zIx_congr hVw, show z_up (z_up M1 517 19 (zWn (zVr (M 518) n))) 527 n 0 517 20 = zP (M 518) n by rw [z_up_ne (by decide), z_up_sl (by decide), x517]; exact i4, ← zEl_Ix hlose]
          have ex : ∃ M4, M4 = zFl (z_up (z_up M1 517 19 (zWn (zVr (M 518) n))) 527 n 0) n (fun w => z_up (z_up M1 517 19 (zWn (zVr (M 518) n))) 527 n 0 524 (8 * n + w)) := ⟨_, rfl⟩
          obtain ⟨M4, e4⟩ := ex
          rw [← e4]
          refine zr_goto (q := 129) dX12_counts_125 (by decide) ?_
          refine zf_iast (by first | assumption | exact k518 | exact k519 | exact k520 | exact k521 | exact k522 | exact k523 | exact k524 | exact k525 | exact k526 | exact k527 | exact k528 | exact k510 | exact k512 | exact k515 | exact k516 | exact k507 | exact k509 | exact k135 | exact k489 | exact k529 | exact k530) (q := 130) dX12_counts_129 rfl (by omega) (by omega) ?_
          refine zp_al0 (q := 131) dX12_counts_130 rfl ?_
          refine zf_getG (v := zWn (zVr (M 518) n)) 19 (k517) (by first | (rw [z_up_ne (by decide), e4, zFl_517 _ _ _ (by decide), z_up_ne (by decide), z_up_eq]) | (rw [z_up_ne (by decide), z_up_ne (by decide), z_up_eq])) rfl fdX12_116 (q := 134) dX12_counts_131 rfl rfl ?_
          refine zr_if_ge (q := 153) (q2 := 137) dX12_counts_134 (by decide) rfl (fun h134 => ?_) (fun h134 => ?_)
          · first
            | (exfalso; omega)
            | (refine zp_al0 (q := 154) dX12_counts_153 rfl ?_
               refine zr_dup (q := 155) dX12_counts_154 rfl (Or.inr rfl) ?_
               refine zf_getG (v := n) 18 (k517) (by first | (rw [z_up_ne (by decide), e4, zFl_517 _ _ _ (by decide), z_up_ne (by decide), z_up_sl (by decide), x517]; exact i3) | (rw [z_up_ne (by decide), z_up_ne (by decide), z_up_sl (by decide), x517]; exact i3)) rfl fdX12_110 (q := 158) dX12_counts_155 rfl rfl ?_
               refine zr_iconst (q := 159) dX12_counts_158 rfl (z_in_of rfl) ?_
               refine zr_iadd (q := 160) dX12_counts_159 rfl (fun hA hB => by unfold z_in at hA hB ⊢; omega) ?_
               refine zf_putG 18 (k517) rfl fpX12_110 (q := 163) dX12_counts_160 rfl rfl (by decide) (z_fit_i _) ?_
               refine zr_goto (q := 58) dX12_counts_163 (by decide) ?_
               first
               | (have t : 0 ≤ zWn (zVr (M 518) n) := by omega
                  generalize hM6 : z_up (z_up (z_up (z_up M1 517 19 (zWn (zVr (M 518) n))) 527 n 0) 526 n (-1)) 517 18 (n + 1) = M6
                  have f1 : ∀ z, z ≠ 517 → z ≠ 526 → z ≠ 527 → M6 z = M1 z := fun z z1 z2 z3 => by rw [← hM6, z_up_ne z1, z_up_ne z2, z_up_ne z3, z_up_ne z1]
                  have f2 : ∀ j, j ≠ 18 → j ≠ 19 → M6 517 j = M' 517 j := fun j a1 a2 => by rw [← hM6, z_up_sl a1, z_up_ne (by decide), z_up_ne (by decide), z_up_sl a2, x517]
                  refine ih (n + 1) S M6 (by omega) (by omega) (by omega) ⟨fun z z1 z2 z3 z4 z5 => by rw [f1 z z1 z4 z5, j1 z z2 z3]; exact i1 z z1 z2 z3 z4 z5, fun j a1 a2 a3 => by rw [f2 j a1 a2]; exact i2 j a1 a2 a3, by rw [← hM6, z_up_eq], ?_, ⟨fun c => by omega, fun _ => by rw [← hM6, z_up_sl (by decide), z_up_ne (by decide), z_up_ne (by decide), z_up_eq, show n + 1 - 1 = n by omega]⟩, fun i a b => ?_, fun j a b => h6 j a (by omega), fun c => ?_, fun _ => by omega⟩
                  · rw [f2 20 (by decide) (by decide), i4, zP_s _ h0]
                    unfold zSn
                    rw [if_neg (by omega)]
                  · by_cases ei : i = n
                    · subst ei
                      refine ⟨fun w w0 w1 => by rw [f1 524 (by decide) (by decide) (by decide)]; exact hV w w0 w1, by rw [f1 525 (by decide) (by decide) (by decide)]; exact j4, by rw [← hM6, z_up_ne (by decide), z_up_eq]; unfold zEl; rw [if_neg (by omega)], by rw [← hM6, z_up_ne (by decide), z_up_ne (by decide), z_up_eq]; unfold zTi; rw [if_neg (by omega)]⟩
                    · have h9 := i6 i a (by omega)
                      refine ⟨fun w w0 w1 => by rw [f1 524 (by decide) (by decide) (by decide), j3 _ (by omega), ]; exact h9.1 w w0 w1, by rw [f1 525 (by decide) (by decide) (by decide), j5 i (by omega)]; exact h9.2.1, by rw [← hM6, z_up_ne (by decide), z_up_sl ei, z_up_ne (by decide), z_up_ne (by decide), j1 526 (by decide) (by decide)]; exact h9.2.2.1, by rw [← hM6, z_up_ne (by decide), z_up_ne (by decide), z_up_sl ei, z_up_ne (by decide), j1 527 (by decide) (by decide)]; exact h9.2.2.2⟩
                  · rw [show n + 1 - 1 = n by omega] at c
                    omega)
               | (have f4 : ∀ z, z ≠ 517 → z ≠ 527 → M4 z = M1 z := fun z z1 z2 => by rw [e4, zFl_ne _ _ _ z1 z2, z_up_ne z2, z_up_ne z1]
                  have f5 : ∀ j, j ≠ 19 → j ≠ 20 → M4 517 j = M' 517 j := fun j a1 a2 => by rw [e4, zFl_517 _ _ _ a2, z_up_ne (by decide), z_up_sl a1, x517]
                  have f6 : M4 517 20 = if 2 ≤ zWc (zVr (M 518) n) then (5 * zP (M 518) n + 3) % 16 else zP (M 518) n := by
                    rw [e4, zFl_20, zWc_congr hVw, show z_up (z_up M1 517 19 (zWn (zVr (M 518) n))) 527 n 0 517 20 = zP (M 518) n by rw [z_up_ne (by decide), z_up_sl (by decide), x517]; exact i4]
                  have f7 : M4 527 n = if 2 ≤ zWc (zVr (M 518) n) then 1 else 0 := by rw [e4, zFl_527, zWc_congr hVw]
                  have f8 : ∀ j, j ≠ n → M4 527 j = M' 527 j := fun j a1 => by rw [e4, zFl_527n _ _ _ a1, z_up_sl a1, z_up_ne (by decide), j1 527 (by decide) (by decide)]
                  have f9 : M4 517 19 = zWn (zVr (M 518) n) := by rw [e4, zFl_517 _ _ _ (by decide), z_up_ne (by decide), z_up_eq]
                  clear e4
                  generalize hM6 : z_up (z_up M4 526 n (zEl (zVr (M 518) n) (zP (M 518) n))) 517 18 (n + 1) = M6
                  have f1 : ∀ z, z ≠ 517 → z ≠ 526 → z ≠ 527 → M6 z = M1 z := fun z z1 z2 z3 => by rw [← hM6, z_up_ne z1, z_up_ne z2, f4 z z1 z3]
                  have f2 : ∀ j, j ≠ 18 → j ≠ 19 → j ≠ 20 → M6 517 j = M' 517 j := fun j a1 a2 a3 => by rw [← hM6, z_up_sl a1, z_up_ne (by decide), f5 j a2 a3]
                  refine ih (n + 1) _ M6 (by omega) (by omega) (by omega) ⟨fun z z1 z2 z3 z4 z5 => by rw [f1 z z1 z4 z5, j1 z z2 z3]; exact i1 z z1 z2 z3 z4 z5, fun j a1 a2 a3 => by rw [f2 j a1 a2 a3]; exact i2 j a1 a2 a3, by rw [← hM6, z_up_eq], ?_, ⟨fun c => by omega, fun _ => by rw [← hM6, z_up_sl (by decide), z_up_ne (by decide), f9, show n + 1 - 1 = n by omega]⟩, fun i a b => ?_, fun j a b => h6 j a (by omega), fun c => ?_, fun _ => by omega⟩
                  · rw [← hM6, z_up_sl (by decide), z_up_ne (by decide), f6, zP_s _ h0]
                    unfold zSn
                    by_cases c2 : 2 ≤ zWc (zVr (M 518) n)
                    · rw [if_pos c2, if_pos ⟨hlose, c2⟩]
                    · rw [if_neg c2, if_neg (fun c3 => c2 c3.2)]
                  · by_cases ei : i = n
                    · subst ei
                      refine ⟨fun w w0 w1 => by rw [f1 524 (by decide) (by decide) (by decide)]; exact hV w w0 w1, by rw [f1 525 (by decide) (by decide) (by decide)]; exact j4, by rw [← hM6, z_up_ne (by decide), z_up_eq], ?_⟩
                      rw [← hM6, z_up_ne (by decide), z_up_ne (by decide), f7]
                      unfold zTi
                      by_cases c2 : 2 ≤ zWc (zVr (M 518) i)
                      · rw [if_pos c2, if_pos ⟨hlose, c2⟩]
                      · rw [if_neg c2, if_neg (fun c3 => c2 c3.2)]
                    · have h9 := i6 i a (by omega)
                      refine ⟨fun w w0 w1 => by rw [f1 524 (by decide) (by decide) (by decide), j3 _ (by omega)]; exact h9.1 w w0 w1, by rw [f1 525 (by decide) (by decide) (by decide), j5 i (by omega)]; exact h9.2.1, by rw [← hM6, z_up_ne (by decide), z_up_sl ei, f4 526 (by decide) (by decide), j1 526 (by decide) (by decide)]; exact h9.2.2.1, by rw [← hM6, z_up_ne (by decide), z_up_ne (by decide), f8 i ei]; exact h9.2.2.2⟩
                  · rw [zA_s _ h0]
                    exact hB.del hel.1 hel.2.1))
          · first
            | (exfalso; omega)
            | (refine zp_il1 (q := 138) dX12_counts_137 rfl ?_
               refine zr_iconst (q := 139) dX12_counts_138 rfl (z_in_of rfl) ?_
               refine zp_al0 (q := 140) dX12_counts_139 rfl ?_
               refine zf_getG (v := 526) 16 (k517) (by rw [z_up_ne (by decide), e4, zFl_517 _ _ _ (by decide)]; exact (H3 _ _).2.2.2.2.2.2.2.2.1) rfl fdX12_42 (q := 143) dX12_counts_140 rfl rfl ?_
               refine zp_al0 (q := 144) dX12_counts_143 rfl ?_
               refine zf_getG (v := n) 18 (k517) (by rw [z_up_ne (by decide), e4, zFl_517 _ _ _ (by decide), z_up_ne (by decide), z_up_sl (by decide), x517]; exact i3) rfl fdX12_110 (q := 147) dX12_counts_144 rfl rfl ?_
               refine zf_iald (v := zEl (zVr (M 518) n) (zP (M 518) n)) (by first | assumption | exact k518 | exact k519 | exact k520 | exact k521 | exact k522 | exact k523 | exact k524 | exact k525 | exact k526 | exact k527 | exact k528 | exact k510 | exact k512 | exact k515 | exact k516 | exact k507 | exact k509 | exact k135 | exact k489 | exact k529 | exact k530) (z_up_eq) (q := 148) dX12_counts_147 rfl (by omega) (by omega) ?_
               refine zr_ishl (q := 149) hel.1 hel.2.1 dX12_counts_148 rfl ?_
               refine zr_iconst (q := 150) dX12_counts_149 rfl (z_in_of rfl) ?_
               refine zr_inot (q := 151) hel.1 hel.2.1 dX12_counts_150 rfl ?_
               refine zr_iandn (q := 152) hB.1.1 hB.1.2 hel.1 hel.2.1 dX12_counts_151 rfl ?_
               refine zp_is1 (q := 153) dX12_counts_152 rfl rfl rfl ?_
               refine zp_al0 (q := 154) dX12_counts_153 rfl ?_
               refine zr_dup (q := 155) dX12_counts_154 rfl (Or.inr rfl) ?_
               refine zf_getG (v := n) 18 (k517) (by first | (rw [z_up_ne (by decide), e4, zFl_517 _ _ _ (by decide), z_up_ne (by decide), z_up_sl (by decide), x517]; exact i3) | (rw [z_up_ne (by decide), z_up_ne (by decide), z_up_sl (by decide), x517]; exact i3)) rfl fdX12_110 (q := 158) dX12_counts_155 rfl rfl ?_
               refine zr_iconst (q := 159) dX12_counts_158 rfl (z_in_of rfl) ?_
               refine zr_iadd (q := 160) dX12_counts_159 rfl (fun hA hB => by unfold z_in at hA hB ⊢; omega) ?_
               refine zf_putG 18 (k517) rfl fpX12_110 (q := 163) dX12_counts_160 rfl rfl (by decide) (z_fit_i _) ?_
               refine zr_goto (q := 58) dX12_counts_163 (by decide) ?_
               first
               | (have t : 0 ≤ zWn (zVr (M 518) n) := by omega
                  generalize hM6 : z_up (z_up (z_up (z_up M1 517 19 (zWn (zVr (M 518) n))) 527 n 0) 526 n (-1)) 517 18 (n + 1) = M6
                  have f1 : ∀ z, z ≠ 517 → z ≠ 526 → z ≠ 527 → M6 z = M1 z := fun z z1 z2 z3 => by rw [← hM6, z_up_ne z1, z_up_ne z2, z_up_ne z3, z_up_ne z1]
                  have f2 : ∀ j, j ≠ 18 → j ≠ 19 → M6 517 j = M' 517 j := fun j a1 a2 => by rw [← hM6, z_up_sl a1, z_up_ne (by decide), z_up_ne (by decide), z_up_sl a2, x517]
                  refine ih (n + 1) S M6 (by omega) (by omega) (by omega) ⟨fun z z1 z2 z3 z4 z5 => by rw [f1 z z1 z4 z5, j1 z z2 z3]; exact i1 z z1 z2 z3 z4 z5, fun j a1 a2 a3 => by rw [f2 j a1 a2]; exact i2 j a1 a2 a3, by rw [← hM6, z_up_eq], ?_, ⟨fun c => by omega, fun _ => by rw [← hM6, z_up_sl (by decide), z_up_ne (by decide), z_up_ne (by decide), z_up_eq, show n + 1 - 1 = n by omega]⟩, fun i a b => ?_, fun j a b => h6 j a (by omega), fun c => ?_, fun _ => by omega⟩
                  · rw [f2 20 (by decide) (by decide), i4, zP_s _ h0]
                    unfold zSn
                    rw [if_neg (by omega)]
                  · by_cases ei : i = n
                    · subst ei
                      refine ⟨fun w w0 w1 => by rw [f1 524 (by decide) (by decide) (by decide)]; exact hV w w0 w1, by rw [f1 525 (by decide) (by decide) (by decide)]; exact j4, by rw [← hM6, z_up_ne (by decide), z_up_eq]; unfold zEl; rw [if_neg (by omega)], by rw [← hM6, z_up_ne (by decide), z_up_ne (by decide), z_up_eq]; unfold zTi; rw [if_neg (by omega)]⟩
                    · have h9 := i6 i a (by omega)
                      refine ⟨fun w w0 w1 => by rw [f1 524 (by decide) (by decide) (by decide), j3 _ (by omega), ]; exact h9.1 w w0 w1, by rw [f1 525 (by decide) (by decide) (by decide), j5 i (by omega)]; exact h9.2.1, by rw [← hM6, z_up_ne (by decide), z_up_sl ei, z_up_ne (by decide), z_up_ne (by decide), j1 526 (by decide) (by decide)]; exact h9.2.2.1, by rw [← hM6, z_up_ne (by decide), z_up_ne (by decide), z_up_sl ei, z_up_ne (by decide), j1 527 (by decide) (by decide)]; exact h9.2.2.2⟩
                  · rw [show n + 1 - 1 = n by omega] at c
                    omega)
               | (have f4 : ∀ z, z ≠ 517 → z ≠ 527 → M4 z = M1 z := fun z z1 z2 => by rw [e4, zFl_ne _ _ _ z1 z2, z_up_ne z2, z_up_ne z1]
                  have f5 : ∀ j, j ≠ 19 → j ≠ 20 → M4 517 j = M' 517 j := fun j a1 a2 => by rw [e4, zFl_517 _ _ _ a2, z_up_ne (by decide), z_up_sl a1, x517]
                  have f6 : M4 517 20 = if 2 ≤ zWc (zVr (M 518) n) then (5 * zP (M 518) n + 3) % 16 else zP (M 518) n := by
                    rw [e4, zFl_20, zWc_congr hVw, show z_up (z_up M1 517 19 (zWn (zVr (M 518) n))) 527 n 0 517 20 = zP (M 518) n by rw [z_up_ne (by decide), z_up_sl (by decide), x517]; exact i4]
                  have f7 : M4 527 n = if 2 ≤ zWc (zVr (M 518) n) then 1 else 0 := by rw [e4, zFl_527, zWc_congr hVw]
                  have f8 : ∀ j, j ≠ n → M4 527 j = M' 527 j := fun j a1 => by rw [e4, zFl_527n _ _ _ a1, z_up_sl a1, z_up_ne (by decide), j1 527 (by decide) (by decide)]
                  have f9 : M4 517 19 = zWn (zVr (M 518) n) := by rw [e4, zFl_517 _ _ _ (by decide), z_up_ne (by decide), z_up_eq]
                  clear e4
                  generalize hM6 : z_up (z_up M4 526 n (zEl (zVr (M 518) n) (zP (M 518) n))) 517 18 (n + 1) = M6
                  have f1 : ∀ z, z ≠ 517 → z ≠ 526 → z ≠ 527 → M6 z = M1 z := fun z z1 z2 z3 => by rw [← hM6, z_up_ne z1, z_up_ne z2, f4 z z1 z3]
                  have f2 : ∀ j, j ≠ 18 → j ≠ 19 → j ≠ 20 → M6 517 j = M' 517 j := fun j a1 a2 a3 => by rw [← hM6, z_up_sl a1, z_up_ne (by decide), f5 j a2 a3]
                  refine ih (n + 1) _ M6 (by omega) (by omega) (by omega) ⟨fun z z1 z2 z3 z4 z5 => by rw [f1 z z1 z4 z5, j1 z z2 z3]; exact i1 z z1 z2 z3 z4 z5, fun j a1 a2 a3 => by rw [f2 j a1 a2 a3]; exact i2 j a1 a2 a3, by rw [← hM6, z_up_eq], ?_, ⟨fun c => by omega, fun _ => by rw [← hM6, z_up_sl (by decide), z_up_ne (by decide), f9, show n + 1 - 1 = n by omega]⟩, fun i a b => ?_, fun j a b => h6 j a (by omega), fun c => ?_, fun _ => by omega⟩
                  · rw [← hM6, z_up_sl (by decide), z_up_ne (by decide), f6, zP_s _ h0]
                    unfold zSn
                    by_cases c2 : 2 ≤ zWc (zVr (M 518) n)
                    · rw [if_pos c2, if_pos ⟨hlose, c2⟩]
                    · rw [if_neg c2, if_neg (fun c3 => c2 c3.2)]
                  · by_cases ei : i = n
                    · subst ei
                      refine ⟨fun w w0 w1 => by rw [f1 524 (by decide) (by decide) (by decide)]; exact hV w w0 w1, by rw [f1 525 (by decide) (by decide) (by decide)]; exact j4, by rw [← hM6, z_up_ne (by decide), z_up_eq], ?_⟩
                      rw [← hM6, z_up_ne (by decide), z_up_ne (by decide), f7]
                      unfold zTi
                      by_cases c2 : 2 ≤ zWc (zVr (M 518) i)
                      · rw [if_pos c2, if_pos ⟨hlose, c2⟩]
                      · rw [if_neg c2, if_neg (fun c3 => c2 c3.2)]
                    · have h9 := i6 i a (by omega)
                      refine ⟨fun w w0 w1 => by rw [f1 524 (by decide) (by decide) (by decide), j3 _ (by omega)]; exact h9.1 w w0 w1, by rw [f1 525 (by decide) (by decide) (by decide), j5 i (by omega)]; exact h9.2.1, by rw [← hM6, z_up_ne (by decide), z_up_sl ei, f4 526 (by decide) (by decide), j1 526 (by decide) (by decide)]; exact h9.2.2.1, by rw [← hM6, z_up_ne (by decide), z_up_ne (by decide), f8 i ei]; exact h9.2.2.2⟩
                  · rw [zA_s _ h0]
                    exact hB.del hel.1 hel.2.1))
theorem s_X12_counts_a (H : zHm M) (hG : zWF (M 518)) {bc bs : Nat} {Q : zV → zS → zM → Prop} (kk : ∀ S, zBits S (zA0 (M 518)) → z_Ex mX12_counts zF 38 [(1, 517), (0, S), (0, M 518 0)] [] M bc bs Q) : ∀ (m : Nat) (k S : Int), 0 ≤ k → k ≤ M 518 0 → M 518 0 - k < m → zBits S (fun j => decide (0 ≤ j ∧ j < k ∧ M 518 (4 + j) = 0)) →
    z_Ex mX12_counts zF 4 [(1, 517), (0, S), (0, k)] [] M bc bs Q := by
  have hw := hG.w
  intro m
  induction m with
  | zero => intro k S h0 h1 h2; omega
  | succ m ih =>
    intro k S h0 h1 h2 hS
    refine zp_il2 (q := 5) dX12_counts_4 rfl ?_
    refine zp_al0 (q := 6) dX12_counts_5 rfl ?_
    refine zf_getG (v := 518) 0 (k517) (H.1) rfl fdX12_7 (q := 9) dX12_counts_6 rfl rfl ?_
    refine zr_iconst (q := 10) dX12_counts_9 rfl (z_in_of rfl) ?_
    refine zf_iald (v := _) (by first | assumption | exact k518 | exact k519 | exact k520 | exact k521 | exact k522 | exact k523 | exact k524 | exact k525 | exact k526 | exact k527 | exact k528 | exact k510 | exact k512 | exact k515 | exact k516 | exact k507 | exact k509 | exact k135 | exact k489 | exact k529 | exact k530) (rfl) (q := 11) dX12_counts_10 rfl (by omega) (by omega) ?_
    refine zr_icmp_ge (q := 38) (q2 := 14) dX12_counts_11 (by decide) rfl (fun h11 => ?_) (fun h11 => ?_)
    · have e : k = M 518 0 := by omega
      subst e
      exact kk S hS
    · refine zp_il1 (q := 15) dX12_counts_14 rfl ?_
      refine zp_al0 (q := 16) dX12_counts_15 rfl ?_
      refine zp_il2 (q := 17) dX12_counts_16 rfl ?_
      refine zf_callV1 (k517) (s_X12_stands H h0 (by omega)) mtX12_stands wiX12_stands weX12_stands wlX12_70 (q := 20) dX12_counts_17 rfl rfl rfl rfl rfl rfl rfl (fun r S9 M9 h8 hP => ?_) (fun k S9 M9 hP => (z_no hP.1 rfl).elim)
      obtain ⟨rfl, rfl, h9⟩ := hP
      subst M9
      refine zr_if_eq (q := 29) (q2 := 23) dX12_counts_20 (by decide) rfl (fun h20 => ?_) (fun h20 => ?_)
      · refine zr_iconst (q := 30) dX12_counts_29 rfl (z_in_of rfl) ?_
        first | refine zr_ior (q := 31) hS.1.1 hS.1.2 (Int.natCast_nonneg _) (by have h9 : 1 <<< k.toNat < 256 := (by rw [Nat.one_shiftLeft]; have : 2 ^ k.toNat ≤ 2 ^ 7 := Nat.pow_le_pow_right (by omega) (by omega); omega); omega) dX12_counts_30 rfl ?_ | refine zr_ior (q := 31) hS.1.1 hS.1.2 (by decide) (by decide) dX12_counts_30 rfl ?_
        refine zp_is1 (q := 32) dX12_counts_31 rfl rfl rfl ?_
        refine zp_inc2 (q := 35) dX12_counts_32 rfl rfl rfl (fun hA => by unfold z_in at hA ⊢; omega) ?_
        refine zr_goto (q := 4) dX12_counts_35 (by decide) ?_
        first
        | (have t : M 518 (4 + k) = 0 := Classical.byContradiction fun c => h20 (if_neg c)
           rw [Int.toNat_natCast]
           refine ih (k + 1) _ (by omega) (by omega) (by omega) ?_
           have e := hS.put h0 (show k < 8 by omega)
           refine ⟨e.1, fun j j0 j1 => (e.2 j j0 j1).trans ?_⟩
           show (decide _ || decide _) = decide _
           by_cases c : j = k
           · rw [decide_eq_true c, Bool.or_true, decide_eq_true (by rw [c]; exact ⟨h0, by omega, t⟩)]
           · rw [decide_eq_false c, Bool.or_false]
             exact decide_eq_decide.mpr (by omega))
        | (have t : ¬ M 518 (4 + k) = 0 := fun c => absurd ((if_pos c).symm.trans h20) (by decide)
           have hS9 := hS.1
           rw [show ((S.toNat ||| (0 : Int).toNat : Nat) : Int) = S by rw [show (0 : Int).toNat = 0 from rfl, Nat.or_zero]; omega]
           refine ih (k + 1) _ (by omega) (by omega) (by omega) ⟨hS.1, fun j j0 j1 => (hS.2 j j0 j1).trans ?_⟩
           show decide _ = decide _
           by_cases c : j = k
           · rw [decide_eq_false (fun d => by omega), decide_eq_false (fun d => t (by rw [← c]; exact d.2.2))]
           · exact decide_eq_decide.mpr (by omega))
      · refine zr_iconst (q := 24) dX12_counts_23 rfl (z_in_of rfl) ?_
        refine zp_il2 (q := 25) dX12_counts_24 rfl ?_
        refine zr_ishl (q := 26) h0 (by omega) dX12_counts_25 rfl ?_
        refine zr_goto (q := 30) dX12_counts_26 (by decide) ?_
        first | refine zr_ior (q := 31) hS.1.1 hS.1.2 (Int.natCast_nonneg _) (by have h9 : 1 <<< k.toNat < 256 := (by rw [Nat.one_shiftLeft]; have : 2 ^ k.toNat ≤ 2 ^ 7 := Nat.pow_le_pow_right (by omega) (by omega); omega); omega) dX12_counts_30 rfl ?_ | refine zr_ior (q := 31) hS.1.1 hS.1.2 (by decide) (by decide) dX12_counts_30 rfl ?_
        refine zp_is1 (q := 32) dX12_counts_31 rfl rfl rfl ?_
        refine zp_inc2 (q := 35) dX12_counts_32 rfl rfl rfl (fun hA => by unfold z_in at hA ⊢; omega) ?_
        refine zr_goto (q := 4) dX12_counts_35 (by decide) ?_
        first
        | (have t : M 518 (4 + k) = 0 := Classical.byContradiction fun c => h20 (if_neg c)
           rw [Int.toNat_natCast]
           refine ih (k + 1) _ (by omega) (by omega) (by omega) ?_
           have e := hS.put h0 (show k < 8 by omega)
           refine ⟨e.1, fun j j0 j1 => (e.2 j j0 j1).trans ?_⟩
           show (decide _ || decide _) = decide _
           by_cases c : j = k
           · rw [decide_eq_true c, Bool.or_true, decide_eq_true (by rw [c]; exact ⟨h0, by omega, t⟩)]
           · rw [decide_eq_false c, Bool.or_false]
             exact decide_eq_decide.mpr (by omega))
        | (have t : ¬ M 518 (4 + k) = 0 := fun c => absurd ((if_pos c).symm.trans h20) (by decide)
           have hS9 := hS.1
           rw [show ((S.toNat ||| (0 : Int).toNat : Nat) : Int) = S by rw [show (0 : Int).toNat = 0 from rfl, Nat.or_zero]; omega]
           refine ih (k + 1) _ (by omega) (by omega) (by omega) ⟨hS.1, fun j j0 j1 => (hS.2 j j0 j1).trans ?_⟩
           show decide _ = decide _
           by_cases c : j = k
           · rw [decide_eq_false (fun d => by omega), decide_eq_false (fun d => t (by rw [← c]; exact d.2.2))]
           · exact decide_eq_decide.mpr (by omega))
theorem s_X12_counts (H : zHm M) (hG : zWF (M 518)) : z_Call mX12_counts zF [(1, 517)] M (fun r S' M' => r = (9, 0) ∧ S' = zF ∧ zMt M M' (M 518)) := by
  have hw := hG.w
  have kk : ∀ S, zBits S (zA0 (M 518)) → z_Ex mX12_counts zF 38 [(1, 517), (0, S), (0, M 518 0)] [] M mX12_counts.2.2.2.2.2.1 mX12_counts.2.2.2.2.2.2.1 (fun r S' M' => r = (9, 0) ∧ S' = zF ∧ zMt M M' (M 518)) := by
    intro S hS
    refine zp_al0 (q := 39) dX12_counts_38 rfl ?_
    refine zr_iconst (q := 40) dX12_counts_39 rfl (z_in_of rfl) ?_
    refine zf_putG 18 (k517) rfl fpX12_110 (q := 43) dX12_counts_40 rfl rfl (by decide) (z_fit_i _) ?_
    refine zp_al0 (q := 44) dX12_counts_43 rfl ?_
    refine zr_iconst (q := 45) dX12_counts_44 rfl (z_in_of rfl) ?_
    refine zf_putG 19 (k517) rfl fpX12_116 (q := 48) dX12_counts_45 rfl rfl (by decide) (z_fit_i _) ?_
    refine zp_al0 (q := 49) dX12_counts_48 rfl ?_
    refine zp_al0 (q := 50) dX12_counts_49 rfl ?_
    refine zf_getG (v := 518) 0 (k517) (H.1) rfl fdX12_7 (q := 53) dX12_counts_50 rfl rfl ?_
    refine zr_iconst (q := 54) dX12_counts_53 rfl (z_in_of rfl) ?_
    refine zf_iald (v := M 518 2) (by first | assumption | exact k518 | exact k519 | exact k520 | exact k521 | exact k522 | exact k523 | exact k524 | exact k525 | exact k526 | exact k527 | exact k528 | exact k510 | exact k512 | exact k515 | exact k516 | exact k507 | exact k509 | exact k135 | exact k489 | exact k529 | exact k530) (rfl) (q := 55) dX12_counts_54 rfl (by omega) (by omega) ?_
    refine zf_putG 20 (k517) rfl fpX12_113 (q := 58) dX12_counts_55 rfl rfl (by decide) (z_fit_i _) ?_
    refine s_X12_counts_l H hG 9 0 S _ (by omega) (by omega) (by omega) ⟨fun z z1 _ _ _ _ => by rw [z_up_ne z1, z_up_ne z1, z_up_ne z1], fun j a b c => by rw [z_up_sl c, z_up_sl b, z_up_sl a], by rw [z_up_sl (by decide), z_up_sl (by decide), z_up_eq], by rw [z_up_eq]; rfl, ⟨fun _ => by rw [z_up_sl (by decide), z_up_eq], fun c => by omega⟩, fun i a b => by omega, fun j a b => by omega, fun _ => hS, fun c => by omega⟩
  refine z_enter (k := 2) rfl rfl rfl ?_
  refine zr_iconst (q := 1) dX12_counts_0 rfl (z_in_of rfl) ?_
  refine zp_is1 (q := 2) dX12_counts_1 rfl rfl rfl ?_
  refine zr_iconst (q := 3) dX12_counts_2 rfl (z_in_of rfl) ?_
  refine zp_is2 (q := 4) dX12_counts_3 rfl rfl rfl ?_
  exact s_X12_counts_a H hG kk 9 0 0 (by omega) (by omega) (by omega) ⟨by omega, fun j j0 j1 => by rw [show (0 : Int).toNat = 0 from rfl, Nat.zero_testBit]; exact (decide_eq_false (by omega)).symm⟩
end ZRE
