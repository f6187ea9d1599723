/-! dep: 70 71 72 -/
/-! ===== WindElection$Reader: a command, all commands ===== -/
/-- the numbers of the command at p have been read -/
def zNu (M : zM) (c : Int → Int) (p : Int) : Prop := (zD1 (zWw c p) ≠ 0 → M 516 0 = zNv c (zq1 c p + 1) (zD1 (zWw c p))) ∧ (zD2 (zWw c p) ≠ 0 → M 516 1 = zNv c (zq2 c p + 1) (zD2 (zWw c p))) ∧
  (zWw c p = 2 → M 513 4 = 2 + zFw9 c (zq3 c p) ∧ ∀ i, 0 ≤ i → i < zFw9 c (zq3 c p) → M 516 (2 + i) = c (zq3 c p + 2 * i + 1) - 48)
/-- the command at p has been read -/
def zRc (M M' : zM) (c : Int → Int) (p : Int) : Prop := zRk9 M M' ∧ M' 513 1 = zCe c p ∧ M' 513 2 = -(11 + zWw c p) ∧ zNu M' c p
theorem zD_rg : ∀ w : Int, (0 ≤ zD1 w ∧ zD1 w ≤ 2) ∧ (0 ≤ zD2 w ∧ zD2 w ≤ 2) ∧ (zD1 w = 0 → zD2 w = 0) := by
  intro w
  by_cases h : w.toNat < 8
  · unfold zD1 zD2
    have : ∀ i : Fin 8, (0 ≤ ([0, 1, 2, 2, 2, 2, 0, 0] : List Int).getD i 0 ∧ ([0, 1, 2, 2, 2, 2, 0, 0] : List Int).getD i 0 ≤ 2) ∧ (0 ≤ ([0, 0, 1, 1, 0, 2, 0, 0] : List Int).getD i 0 ∧ ([0, 0, 1, 1, 0, 2, 0, 0] : List Int).getD i 0 ≤ 2) ∧ (([0, 1, 2, 2, 2, 2, 0, 0] : List Int).getD i 0 = 0 → ([0, 0, 1, 1, 0, 2, 0, 0] : List Int).getD i 0 = 0) := by decide +kernel
    exact this ⟨w.toNat, h⟩
  · unfold zD1 zD2
    rw [List.getD_eq_getElem?_getD, List.getD_eq_getElem?_getD, List.getElem?_eq_none (by show 8 ≤ w.toNat; omega), List.getElem?_eq_none (by show 8 ≤ w.toNat; omega)]
    decide
section ZRC
variable {M : zM} {L : List Int} {n : Int}
theorem s_X7_rewind : z_Call mX7_rewind zF [(1, 513)] M (zpF 9 0 (z_up M 513 1 0)) := by
  refine z_enter (k := 0) rfl rfl rfl ?_
  refine zp_al0 (q := 1) dX7_rewind_0 rfl ?_
  refine zr_iconst (q := 2) dX7_rewind_1 rfl (z_in_of rfl) ?_
  refine zf_putG 1 (k513) rfl fpX7_18 (q := 5) dX7_rewind_2 rfl rfl (by decide) (z_fit_i _) ?_
  refine zr_return dX7_rewind_5 rfl ?_
  exact ⟨rfl, rfl, rfl⟩
theorem s_X7_readCommand_t (H : zRh M L) (hE : zEd (zCh9 L) n) {p : Int} (hp : M 513 1 = p) (h0 : 0 ≤ p) (h1 : p ≤ n) (hk : M 513 4 = 0) {bc bs : Nat} {Q : zV → zS → zM → Prop}
    (hy : zCo (zCh9 L) p → ∀ M', zRc M M' (zCh9 L) p → Q (0, 1) zF M') (hn : ¬ zCo (zCh9 L) p → ∀ M', zRk9 M M' → M' 513 1 = zCe (zCh9 L) p → Q (0, 0) zF M') : z_Ex mX7_readCommand zF 23 [(1, 513)] [] M bc bs Q := by
  have hrg := zCe_rg hE h0 h1
  obtain ⟨g1, g2, g3, g4, g5, g6, g7, g8, g9⟩ := hrg
  have hE1 := hE.2.1
  have hw8 := zWw_rg (zCh9 L) p
  obtain ⟨d1, d2, d12⟩ := zD_rg (zWw (zCh9 L) p)
  by_cases c0 : zWw (zCh9 L) p < 0
  · have hce := zCe_w c0
    refine zp_al0 (q := 24) dX7_readCommand_23 rfl ?_
    refine zf_callV0 (k513) (s_X7_readWord_x H hp h0 (by omega) c0) mtX7_readWord wiX7_readWord weX7_readWord wlX7_52 (q := 27) dX7_readCommand_24 rfl rfl rfl rfl rfl rfl rfl (fun r S9 M9 h8 hP => ?_) (fun k S9 M9 hP => (z_no hP.1 rfl).elim)
    obtain ⟨rfl, rfl, h9⟩ := hP
    subst M9
    refine zr_if_eq (q := 58) (q2 := 30) dX7_readCommand_27 (by decide) rfl (fun h27 => ?_) (fun h27 => ?_)
    · refine zr_iconst (q := 59) dX7_readCommand_58 rfl (z_in_of rfl) ?_
      refine zr_ireturn dX7_readCommand_59 rfl (z_fit_z (by decide)) ?_
      exact hn (fun ho => by have := ho.1; omega) _ (zRk9.u (by decide) (by decide)) (by rw [z_up_eq, hce]; rfl)
    · exact absurd rfl h27
  · have w0 : 0 ≤ zWw (zCh9 L) p := by omega
    have K1 : zRk9 M (z_up (z_up M 513 2 (-(11 + zWw (zCh9 L) p))) 513 1 (p + zWa (zCh9 L) p)) := (zRk9.u (by decide) (by decide)).t (zRk9.u (by decide) (by decide))
    have H1 := K1.h H
    have r1 : z_up (z_up M 513 2 (-(11 + zWw (zCh9 L) p))) 513 1 (p + zWa (zCh9 L) p) 513 1 = zq1 (zCh9 L) p := z_up_eq
    have r2 : z_up (z_up M 513 2 (-(11 + zWw (zCh9 L) p))) 513 1 (p + zWa (zCh9 L) p) 513 2 = -(11 + zWw (zCh9 L) p) := by rw [z_up_sl (by decide), z_up_eq]
    have r4 : z_up (z_up M 513 2 (-(11 + zWw (zCh9 L) p))) 513 1 (p + zWa (zCh9 L) p) 513 4 = 0 := by rw [z_up_sl (by decide), z_up_sl (by decide)]; exact hk
    have q10 := g9 w0
    have sW := s_X7_readWord H hp h0 (by omega) w0
    generalize z_up (z_up M 513 2 (-(11 + zWw (zCh9 L) p))) 513 1 (p + zWa (zCh9 L) p) = M1 at K1 H1 r1 r2 r4 sW
    by_cases c1 : zPo (zCh9 L) (zq1 (zCh9 L) p) (zD1 (zWw (zCh9 L) p))
    · have s1 := s_X7_readParameter H1 (k := 0) r1 (by omega) r4 (by decide) (by decide) c1
      by_cases c2 : zPo (zCh9 L) (zq2 (zCh9 L) p) (zD2 (zWw (zCh9 L) p))
      · by_cases c3 : zWw (zCh9 L) p = 2
        · have e1 : zD1 (zWw (zCh9 L) p) = 2 := by rw [c3]; rfl
          have e2 : zD2 (zWw (zCh9 L) p) = 1 := by rw [c3]; rfl
          have fm := zFm_end hE.2.2.1 60 (zq3 (zCh9 L) p) (by omega)
          have fr := zFm_range (zCh9 L) 60 (zq3 (zCh9 L) p)
          have fe : zFm (zCh9 L) 60 (zq3 (zCh9 L) p) = zFw9 (zCh9 L) (zq3 (zCh9 L) p) := rfl
          rw [fe] at fm fr
          by_cases c4 : zCh9 L (zq4 (zCh9 L) p) = 62
          · have hce := zCe_5 c0 c1 c2 c3 c4
            refine zp_al0 (q := 24) dX7_readCommand_23 rfl ?_
            refine zf_callV0 (k513) (sW) mtX7_readWord wiX7_readWord weX7_readWord wlX7_52 (q := 27) dX7_readCommand_24 rfl rfl rfl rfl rfl rfl rfl (fun r S9 M9 h8 hP => ?_) (fun k S9 M9 hP => (z_no hP.1 rfl).elim)
            obtain ⟨rfl, rfl, h9⟩ := hP
            subst M9
            refine zr_if_eq (q := 58) (q2 := 30) dX7_readCommand_27 (by decide) rfl (fun h27 => ?_) (fun h27 => ?_)
            · exact absurd h27 (by decide)
            · refine zp_al0 (q := 31) dX7_readCommand_30 rfl ?_
              refine zp_al0 (q := 32) dX7_readCommand_31 rfl ?_
              refine zf_getG (v := -(11 + zWw (zCh9 L) p)) 2 (k513) (r2) rfl fdX7_28 (q := 35) dX7_readCommand_32 rfl rfl ?_
              refine zr_getO (q := 38) (ref := "WindElection$Word") (k := 11 + (zWw (zCh9 L) p).toNat) (v := (0, zD1 (zWw (zCh9 L) p))) (by omega) (by omega) (zk_w1 w0 hw8.2) (fun _ => by show z_in (zD1 _); unfold z_in; omega) (z_all_in (i := 1703) (by decide +kernel) (by decide +kernel)) dX7_readCommand_35 rfl ?_
              refine zf_callV1 (k513) (s1) mtX7_readParameter wiX7_readParameter weX7_readParameter wlX7_58 (q := 41) dX7_readCommand_38 rfl rfl rfl rfl rfl rfl rfl (fun r S9 M9 h8 hP => ?_) (fun k S9 M9 hP => (z_no hP.1 rfl).elim)
              obtain ⟨rfl, rfl, x1, x2, x3, x4, x5, x6⟩ := hP
              have H2 := x1.h H1
              have x2b : M9 513 1 = zq2 (zCh9 L) p := x2
              rw [if_neg (by omega)] at x4
              have s2 := s_X7_readParameter H2 (k := 0 + 1) x2b (by omega) x4 (by decide) (by decide) c2
              refine zr_if_eq (q := 58) (q2 := 44) dX7_readCommand_41 (by decide) rfl (fun h41 => ?_) (fun h41 => ?_)
              · exact absurd h41 (by decide)
              · refine zp_al0 (q := 45) dX7_readCommand_44 rfl ?_
                refine zp_al0 (q := 46) dX7_readCommand_45 rfl ?_
                refine zf_getG (v := -(11 + zWw (zCh9 L) p)) 2 (k513) (x3.trans r2) rfl fdX7_28 (q := 49) dX7_readCommand_46 rfl rfl ?_
                refine zr_getO (q := 52) (ref := "WindElection$Word") (k := 11 + (zWw (zCh9 L) p).toNat) (v := (0, zD2 (zWw (zCh9 L) p))) (by omega) (by omega) (zk_w2 w0 hw8.2) (fun _ => by show z_in (zD2 _); unfold z_in; omega) (z_all_in (i := 1704) (by decide +kernel) (by decide +kernel)) dX7_readCommand_49 rfl ?_
                refine zf_callV1 (k513) (s2) mtX7_readParameter wiX7_readParameter weX7_readParameter wlX7_58 (q := 55) dX7_readCommand_52 rfl rfl rfl rfl rfl rfl rfl (fun r S9 M9 h8 hP => ?_) (fun k S9 M9 hP => (z_no hP.1 rfl).elim)
                obtain ⟨rfl, rfl, y1, y2, y3, y4, y5, y6⟩ := hP
                have H3 := y1.h H2
                rw [if_neg (by omega)] at y4
                refine zr_if_ne (q := 60) (q2 := 58) dX7_readCommand_55 (by decide) rfl (fun h55 => ?_) (fun h55 => ?_)
                · refine zp_al0 (q := 61) dX7_readCommand_60 rfl ?_
                  refine zf_getG (v := -(11 + zWw (zCh9 L) p)) 2 (k513) (y3.trans (x3.trans r2)) rfl fdX7_28 (q := 64) dX7_readCommand_61 rfl rfl ?_
                  refine zr_gets (v := (1, -13)) (Cn := "WindElection$Word") (n := "BALLOT") (d := "LWindElection$Word;") (fun C s h => zs_Wd 2 (by decide) h) (fun _ => z_in_of rfl) (z_all_in (i := 1160) (by decide +kernel) (by decide +kernel)) dX7_readCommand_64 rfl ?_
                  refine zr_acmp_ne (q := 77) (q2 := 70) (fun hne => z_injW' (by omega) (by omega) hne) dX7_readCommand_67 (by decide) rfl (fun h67 => ?_) (fun h67 => ?_)
                  · exact absurd h67 (by omega)
                  · refine zp_al0 (q := 71) dX7_readCommand_70 rfl ?_
                    refine zf_callV0 (k513) (s_X7_readFurtherWinds_x H3 (p := zq3 (zCh9 L) p) (k := 2) (by omega) y2 (by omega) (by omega) y4 (by decide) (by omega) c4) mtX7_readFurtherWinds wiX7_readFurtherWinds weX7_readFurtherWinds wlX7_68 (q := 74) dX7_readCommand_71 rfl rfl rfl rfl rfl rfl rfl (fun r S9 M9 h8 hP => ?_) (fun k S9 M9 hP => (z_no hP.1 rfl).elim)
                    obtain ⟨rfl, rfl, z1, z2⟩ := hP
                    refine zr_if_eq (q := 81) (q2 := 77) dX7_readCommand_74 (by decide) rfl (fun h74 => ?_) (fun h74 => ?_)
                    · refine zr_iconst (q := 82) dX7_readCommand_81 rfl (z_in_of rfl) ?_
                      refine zr_ireturn dX7_readCommand_82 rfl (z_fit_z (by decide)) ?_
                      exact hn (fun ho => ho.2.2.2 c3 c4) _ (K1.t (x1.t (y1.t z1))) (by rw [z2, hce]; rfl)
                    · exact absurd rfl h74
                · exact absurd h55 (by decide)
          · have hce := zCe_4 c0 c1 c2 c3 c4
            refine zp_al0 (q := 24) dX7_readCommand_23 rfl ?_
            refine zf_callV0 (k513) (sW) mtX7_readWord wiX7_readWord weX7_readWord wlX7_52 (q := 27) dX7_readCommand_24 rfl rfl rfl rfl rfl rfl rfl (fun r S9 M9 h8 hP => ?_) (fun k S9 M9 hP => (z_no hP.1 rfl).elim)
            obtain ⟨rfl, rfl, h9⟩ := hP
            subst M9
            refine zr_if_eq (q := 58) (q2 := 30) dX7_readCommand_27 (by decide) rfl (fun h27 => ?_) (fun h27 => ?_)
            · exact absurd h27 (by decide)
            · refine zp_al0 (q := 31) dX7_readCommand_30 rfl ?_
              refine zp_al0 (q := 32) dX7_readCommand_31 rfl ?_
              refine zf_getG (v := -(11 + zWw (zCh9 L) p)) 2 (k513) (r2) rfl fdX7_28 (q := 35) dX7_readCommand_32 rfl rfl ?_
              refine zr_getO (q := 38) (ref := "WindElection$Word") (k := 11 + (zWw (zCh9 L) p).toNat) (v := (0, zD1 (zWw (zCh9 L) p))) (by omega) (by omega) (zk_w1 w0 hw8.2) (fun _ => by show z_in (zD1 _); unfold z_in; omega) (z_all_in (i := 1703) (by decide +kernel) (by decide +kernel)) dX7_readCommand_35 rfl ?_
              refine zf_callV1 (k513) (s1) mtX7_readParameter wiX7_readParameter weX7_readParameter wlX7_58 (q := 41) dX7_readCommand_38 rfl rfl rfl rfl rfl rfl rfl (fun r S9 M9 h8 hP => ?_) (fun k S9 M9 hP => (z_no hP.1 rfl).elim)
              obtain ⟨rfl, rfl, x1, x2, x3, x4, x5, x6⟩ := hP
              have H2 := x1.h H1
              have x2b : M9 513 1 = zq2 (zCh9 L) p := x2
              rw [if_neg (by omega)] at x4
              have s2 := s_X7_readParameter H2 (k := 0 + 1) x2b (by omega) x4 (by decide) (by decide) c2
              have ex : ∃ M2, M2 = M9 := ⟨M9, rfl⟩
              obtain ⟨M2, e2x⟩ := ex
              rw [← e2x] at x1 x2 x2b x3 x4 x5 x6 H2 s2 ⊢
              clear e2x M9
              refine zr_if_eq (q := 58) (q2 := 44) dX7_readCommand_41 (by decide) rfl (fun h41 => ?_) (fun h41 => ?_)
              · exact absurd h41 (by decide)
              · refine zp_al0 (q := 45) dX7_readCommand_44 rfl ?_
                refine zp_al0 (q := 46) dX7_readCommand_45 rfl ?_
                refine zf_getG (v := -(11 + zWw (zCh9 L) p)) 2 (k513) (x3.trans r2) rfl fdX7_28 (q := 49) dX7_readCommand_46 rfl rfl ?_
                refine zr_getO (q := 52) (ref := "WindElection$Word") (k := 11 + (zWw (zCh9 L) p).toNat) (v := (0, zD2 (zWw (zCh9 L) p))) (by omega) (by omega) (zk_w2 w0 hw8.2) (fun _ => by show z_in (zD2 _); unfold z_in; omega) (z_all_in (i := 1704) (by decide +kernel) (by decide +kernel)) dX7_readCommand_49 rfl ?_
                refine zf_callV1 (k513) (s2) mtX7_readParameter wiX7_readParameter weX7_readParameter wlX7_58 (q := 55) dX7_readCommand_52 rfl rfl rfl rfl rfl rfl rfl (fun r S9 M9 h8 hP => ?_) (fun k S9 M9 hP => (z_no hP.1 rfl).elim)
                obtain ⟨rfl, rfl, y1, y2, y3, y4, y5, y6⟩ := hP
                have H3 := y1.h H2
                rw [if_neg (by omega)] at y4
                have ex : ∃ M3, M3 = M9 := ⟨M9, rfl⟩
                obtain ⟨M3, e3x⟩ := ex
                rw [← e3x] at y1 y2 y3 y4 y5 y6 H3 ⊢
                clear e3x M9
                refine zr_if_ne (q := 60) (q2 := 58) dX7_readCommand_55 (by decide) rfl (fun h55 => ?_) (fun h55 => ?_)
                · refine zp_al0 (q := 61) dX7_readCommand_60 rfl ?_
                  refine zf_getG (v := -(11 + zWw (zCh9 L) p)) 2 (k513) (y3.trans (x3.trans r2)) rfl fdX7_28 (q := 64) dX7_readCommand_61 rfl rfl ?_
                  refine zr_gets (v := (1, -13)) (Cn := "WindElection$Word") (n := "BALLOT") (d := "LWindElection$Word;") (fun C s h => zs_Wd 2 (by decide) h) (fun _ => z_in_of rfl) (z_all_in (i := 1160) (by decide +kernel) (by decide +kernel)) dX7_readCommand_64 rfl ?_
                  refine zr_acmp_ne (q := 77) (q2 := 70) (fun hne => z_injW' (by omega) (by omega) hne) dX7_readCommand_67 (by decide) rfl (fun h67 => ?_) (fun h67 => ?_)
                  · exact absurd h67 (by omega)
                  · refine zp_al0 (q := 71) dX7_readCommand_70 rfl ?_
                    refine zf_callV0 (k513) (s_X7_readFurtherWinds H3 (p := zq3 (zCh9 L) p) (k := 2) (by omega) y2 (by omega) (by omega) y4 (by decide) (by omega) c4) mtX7_readFurtherWinds wiX7_readFurtherWinds weX7_readFurtherWinds wlX7_68 (q := 74) dX7_readCommand_71 rfl rfl rfl rfl rfl rfl rfl (fun r S9 M9 h8 hP => ?_) (fun k S9 M9 hP => (z_no hP.1 rfl).elim)
                    obtain ⟨rfl, rfl, z1, z2, z3, z4, z5, z6⟩ := hP
                    refine zr_if_eq (q := 81) (q2 := 77) dX7_readCommand_74 (by decide) rfl (fun h74 => ?_) (fun h74 => ?_)
                    · exact absurd h74 (by decide)
                    · refine zr_iconst (q := 78) dX7_readCommand_77 rfl (z_in_of rfl) ?_
                      refine zr_goto (q := 82) dX7_readCommand_78 (by decide) ?_
                      refine zr_ireturn dX7_readCommand_82 rfl (z_fit_z (by decide)) ?_
                      refine hy ⟨w0, c1, c2, fun _ => c4⟩ _ ⟨K1.t (x1.t (y1.t z1)), by rw [z2, hce]; rfl, z3.trans (y3.trans (x3.trans r2)), fun hd => ?_, fun hd => ?_, fun _ => ⟨z4, z5⟩⟩
                      · rw [z6 0 (by decide), y6 0 (by decide)]
                        exact x5 hd
                      · rw [z6 1 (by decide)]
                        exact y5 hd
                · exact absurd h55 (by decide)
        · have hce := zCe_3 c0 c1 c2 c3
          refine zp_al0 (q := 24) dX7_readCommand_23 rfl ?_
          refine zf_callV0 (k513) (sW) mtX7_readWord wiX7_readWord weX7_readWord wlX7_52 (q := 27) dX7_readCommand_24 rfl rfl rfl rfl rfl rfl rfl (fun r S9 M9 h8 hP => ?_) (fun k S9 M9 hP => (z_no hP.1 rfl).elim)
          obtain ⟨rfl, rfl, h9⟩ := hP
          subst M9
          refine zr_if_eq (q := 58) (q2 := 30) dX7_readCommand_27 (by decide) rfl (fun h27 => ?_) (fun h27 => ?_)
          · exact absurd h27 (by decide)
          · refine zp_al0 (q := 31) dX7_readCommand_30 rfl ?_
            refine zp_al0 (q := 32) dX7_readCommand_31 rfl ?_
            refine zf_getG (v := -(11 + zWw (zCh9 L) p)) 2 (k513) (r2) rfl fdX7_28 (q := 35) dX7_readCommand_32 rfl rfl ?_
            refine zr_getO (q := 38) (ref := "WindElection$Word") (k := 11 + (zWw (zCh9 L) p).toNat) (v := (0, zD1 (zWw (zCh9 L) p))) (by omega) (by omega) (zk_w1 w0 hw8.2) (fun _ => by show z_in (zD1 _); unfold z_in; omega) (z_all_in (i := 1703) (by decide +kernel) (by decide +kernel)) dX7_readCommand_35 rfl ?_
            refine zf_callV1 (k513) (s1) mtX7_readParameter wiX7_readParameter weX7_readParameter wlX7_58 (q := 41) dX7_readCommand_38 rfl rfl rfl rfl rfl rfl rfl (fun r S9 M9 h8 hP => ?_) (fun k S9 M9 hP => (z_no hP.1 rfl).elim)
            obtain ⟨rfl, rfl, x1, x2, x3, x4, x5, x6⟩ := hP
            have H2 := x1.h H1
            have x2b : M9 513 1 = zq2 (zCh9 L) p := x2
            have s2 := s_X7_readParameter H2 (k := 0 + if zD1 (zWw (zCh9 L) p) = 0 then 0 else 1) x2b (by omega) x4 (by split <;> omega) (by split <;> omega) c2
            have ex : ∃ M2, M2 = M9 := ⟨M9, rfl⟩
            obtain ⟨M2, e2x⟩ := ex
            rw [← e2x] at x1 x2 x2b x3 x4 x5 x6 H2 s2 ⊢
            clear e2x M9
            refine zr_if_eq (q := 58) (q2 := 44) dX7_readCommand_41 (by decide) rfl (fun h41 => ?_) (fun h41 => ?_)
            · exact absurd h41 (by decide)
            · refine zp_al0 (q := 45) dX7_readCommand_44 rfl ?_
              refine zp_al0 (q := 46) dX7_readCommand_45 rfl ?_
              refine zf_getG (v := -(11 + zWw (zCh9 L) p)) 2 (k513) (x3.trans r2) rfl fdX7_28 (q := 49) dX7_readCommand_46 rfl rfl ?_
              refine zr_getO (q := 52) (ref := "WindElection$Word") (k := 11 + (zWw (zCh9 L) p).toNat) (v := (0, zD2 (zWw (zCh9 L) p))) (by omega) (by omega) (zk_w2 w0 hw8.2) (fun _ => by show z_in (zD2 _); unfold z_in; omega) (z_all_in (i := 1704) (by decide +kernel) (by decide +kernel)) dX7_readCommand_49 rfl ?_
              refine zf_callV1 (k513) (s2) mtX7_readParameter wiX7_readParameter weX7_readParameter wlX7_58 (q := 55) dX7_readCommand_52 rfl rfl rfl rfl rfl rfl rfl (fun r S9 M9 h8 hP => ?_) (fun k S9 M9 hP => (z_no hP.1 rfl).elim)
              obtain ⟨rfl, rfl, y1, y2, y3, y4, y5, y6⟩ := hP
              refine zr_if_ne (q := 60) (q2 := 58) dX7_readCommand_55 (by decide) rfl (fun h55 => ?_) (fun h55 => ?_)
              · refine zp_al0 (q := 61) dX7_readCommand_60 rfl ?_
                refine zf_getG (v := -(11 + zWw (zCh9 L) p)) 2 (k513) (y3.trans (x3.trans r2)) rfl fdX7_28 (q := 64) dX7_readCommand_61 rfl rfl ?_
                refine zr_gets (v := (1, -13)) (Cn := "WindElection$Word") (n := "BALLOT") (d := "LWindElection$Word;") (fun C s h => zs_Wd 2 (by decide) h) (fun _ => z_in_of rfl) (z_all_in (i := 1160) (by decide +kernel) (by decide +kernel)) dX7_readCommand_64 rfl ?_
                refine zr_acmp_ne (q := 77) (q2 := 70) (fun hne => z_injW' (by omega) (by omega) hne) dX7_readCommand_67 (by decide) rfl (fun h67 => ?_) (fun h67 => ?_)
                · refine zr_iconst (q := 78) dX7_readCommand_77 rfl (z_in_of rfl) ?_
                  refine zr_goto (q := 82) dX7_readCommand_78 (by decide) ?_
                  refine zr_ireturn dX7_readCommand_82 rfl (z_fit_z (by decide)) ?_
                  refine hy ⟨w0, c1, c2, fun h => absurd h c3⟩ _ ⟨K1.t (x1.t y1), by rw [y2, hce]; rfl, y3.trans (x3.trans r2), fun hd => ?_, fun hd => ?_, fun h => absurd h c3⟩
                  · by_cases h9 : zD2 (zWw (zCh9 L) p) = 0
                    · rw [y6 0 (by rw [if_neg hd]; decide)]
                      exact x5 hd
                    · rw [y6 0 (by rw [if_neg hd]; decide)]
                      exact x5 hd
                  · have h9 : zD1 (zWw (zCh9 L) p) ≠ 0 := fun h => hd (d12 h)
                    have := y5 hd
                    rw [if_neg h9] at this
                    exact this
                · exact absurd h67 (by omega)
              · exact absurd h55 (by decide)
      · have hce := zCe_2 c0 c1 c2
        refine zp_al0 (q := 24) dX7_readCommand_23 rfl ?_
        refine zf_callV0 (k513) (sW) mtX7_readWord wiX7_readWord weX7_readWord wlX7_52 (q := 27) dX7_readCommand_24 rfl rfl rfl rfl rfl rfl rfl (fun r S9 M9 h8 hP => ?_) (fun k S9 M9 hP => (z_no hP.1 rfl).elim)
        obtain ⟨rfl, rfl, h9⟩ := hP
        subst M9
        refine zr_if_eq (q := 58) (q2 := 30) dX7_readCommand_27 (by decide) rfl (fun h27 => ?_) (fun h27 => ?_)
        · exact absurd h27 (by decide)
        · refine zp_al0 (q := 31) dX7_readCommand_30 rfl ?_
          refine zp_al0 (q := 32) dX7_readCommand_31 rfl ?_
          refine zf_getG (v := -(11 + zWw (zCh9 L) p)) 2 (k513) (r2) rfl fdX7_28 (q := 35) dX7_readCommand_32 rfl rfl ?_
          refine zr_getO (q := 38) (ref := "WindElection$Word") (k := 11 + (zWw (zCh9 L) p).toNat) (v := (0, zD1 (zWw (zCh9 L) p))) (by omega) (by omega) (zk_w1 w0 hw8.2) (fun _ => by show z_in (zD1 _); unfold z_in; omega) (z_all_in (i := 1703) (by decide +kernel) (by decide +kernel)) dX7_readCommand_35 rfl ?_
          refine zf_callV1 (k513) (s1) mtX7_readParameter wiX7_readParameter weX7_readParameter wlX7_58 (q := 41) dX7_readCommand_38 rfl rfl rfl rfl rfl rfl rfl (fun r S9 M9 h8 hP => ?_) (fun k S9 M9 hP => (z_no hP.1 rfl).elim)
          obtain ⟨rfl, rfl, x1, x2, x3, x4, x5, x6⟩ := hP
          have H2 := x1.h H1
          have x2b : M9 513 1 = zq2 (zCh9 L) p := x2
          have s2 := s_X7_readParameter_x H2 x2b (by omega) c2
          have ex : ∃ M2, M2 = M9 := ⟨M9, rfl⟩
          obtain ⟨M2, e2x⟩ := ex
          rw [← e2x] at x1 x2 x2b x3 x4 x5 x6 H2 s2 ⊢
          clear e2x M9
          refine zr_if_eq (q := 58) (q2 := 44) dX7_readCommand_41 (by decide) rfl (fun h41 => ?_) (fun h41 => ?_)
          · exact absurd h41 (by decide)
          · refine zp_al0 (q := 45) dX7_readCommand_44 rfl ?_
            refine zp_al0 (q := 46) dX7_readCommand_45 rfl ?_
            refine zf_getG (v := -(11 + zWw (zCh9 L) p)) 2 (k513) (x3.trans r2) rfl fdX7_28 (q := 49) dX7_readCommand_46 rfl rfl ?_
            refine zr_getO (q := 52) (ref := "WindElection$Word") (k := 11 + (zWw (zCh9 L) p).toNat) (v := (0, zD2 (zWw (zCh9 L) p))) (by omega) (by omega) (zk_w2 w0 hw8.2) (fun _ => by show z_in (zD2 _); unfold z_in; omega) (z_all_in (i := 1704) (by decide +kernel) (by decide +kernel)) dX7_readCommand_49 rfl ?_
            refine zf_callV1 (k513) (s2) mtX7_readParameter wiX7_readParameter weX7_readParameter wlX7_58 (q := 55) dX7_readCommand_52 rfl rfl rfl rfl rfl rfl rfl (fun r S9 M9 h8 hP => ?_) (fun k S9 M9 hP => (z_no hP.1 rfl).elim)
            obtain ⟨rfl, rfl, y1, y2⟩ := hP
            refine zr_if_ne (q := 60) (q2 := 58) dX7_readCommand_55 (by decide) rfl (fun h55 => ?_) (fun h55 => ?_)
            · exact absurd rfl h55
            · refine zr_iconst (q := 59) dX7_readCommand_58 rfl (z_in_of rfl) ?_
              refine zr_ireturn dX7_readCommand_59 rfl (z_fit_z (by decide)) ?_
              exact hn (fun ho => c2 ho.2.2.1) _ (K1.t (x1.t y1)) (by rw [y2, hce]; rfl)
    · have hce := zCe_1 c0 c1
      have s1 := s_X7_readParameter_x H1 r1 (by omega) c1
      refine zp_al0 (q := 24) dX7_readCommand_23 rfl ?_
      refine zf_callV0 (k513) (sW) mtX7_readWord wiX7_readWord weX7_readWord wlX7_52 (q := 27) dX7_readCommand_24 rfl rfl rfl rfl rfl rfl rfl (fun r S9 M9 h8 hP => ?_) (fun k S9 M9 hP => (z_no hP.1 rfl).elim)
      obtain ⟨rfl, rfl, h9⟩ := hP
      subst M9
      refine zr_if_eq (q := 58) (q2 := 30) dX7_readCommand_27 (by decide) rfl (fun h27 => ?_) (fun h27 => ?_)
      · exact absurd h27 (by decide)
      · refine zp_al0 (q := 31) dX7_readCommand_30 rfl ?_
        refine zp_al0 (q := 32) dX7_readCommand_31 rfl ?_
        refine zf_getG (v := -(11 + zWw (zCh9 L) p)) 2 (k513) (r2) rfl fdX7_28 (q := 35) dX7_readCommand_32 rfl rfl ?_
        refine zr_getO (q := 38) (ref := "WindElection$Word") (k := 11 + (zWw (zCh9 L) p).toNat) (v := (0, zD1 (zWw (zCh9 L) p))) (by omega) (by omega) (zk_w1 w0 hw8.2) (fun _ => by show z_in (zD1 _); unfold z_in; omega) (z_all_in (i := 1703) (by decide +kernel) (by decide +kernel)) dX7_readCommand_35 rfl ?_
        refine zf_callV1 (k513) (s1) mtX7_readParameter wiX7_readParameter weX7_readParameter wlX7_58 (q := 41) dX7_readCommand_38 rfl rfl rfl rfl rfl rfl rfl (fun r S9 M9 h8 hP => ?_) (fun k S9 M9 hP => (z_no hP.1 rfl).elim)
        obtain ⟨rfl, rfl, x1, x2⟩ := hP
        refine zr_if_eq (q := 58) (q2 := 44) dX7_readCommand_41 (by decide) rfl (fun h41 => ?_) (fun h41 => ?_)
        · refine zr_iconst (q := 59) dX7_readCommand_58 rfl (z_in_of rfl) ?_
          refine zr_ireturn dX7_readCommand_59 rfl (z_fit_z (by decide)) ?_
          exact hn (fun ho => c1 ho.2.1) _ (K1.t x1) (by rw [x2, hce]; rfl)
        · exact absurd rfl h41
theorem zRc.k {M M1 M' : zM} {c : Int → Int} {p : Int} (h : zRk9 M M1) (h1 : zRc M1 M' c p) : zRc M M' c p := ⟨h.t h1.1, h1.2⟩
/-- the reader stands before the command at p: at the text's begin, or before a semicolon -/
def zAt9 (M : zM) (c : Int → Int) (p : Int) : Prop := (M 513 1 = 0 ∧ p = 0) ∨ (0 < M 513 1 ∧ c (M 513 1) = 59 ∧ p = M 513 1 + 1)
theorem s_X7_readCommand_q (H : zRh M L) (hE : zEd (zCh9 L) n) {p : Int} (hp : zAt9 M (zCh9 L) p) (h1 : p ≤ n) {Q : zV → zS → zM → Prop}
    (hy : zCo (zCh9 L) p → ∀ M', zRc M M' (zCh9 L) p → Q (0, 1) zF M') (hn : ¬ zCo (zCh9 L) p → ∀ M', zRk9 M M' → M' 513 1 = zCe (zCh9 L) p → Q (0, 0) zF M') : z_Call mX7_readCommand zF [(1, 513)] M Q := by
  have K1 : zRk9 M (z_up M 513 4 0) := zRk9.u (by decide) (by decide)
  have H1 := K1.h H
  have hE1 := hE.2.1
  rcases hp with ⟨p1, p2⟩ | ⟨p1, p2, p3⟩
  · subst p2
    refine z_enter (k := 0) rfl rfl rfl ?_
    refine zp_al0 (q := 1) dX7_readCommand_0 rfl ?_
    refine zr_iconst (q := 2) dX7_readCommand_1 rfl (z_in_of rfl) ?_
    refine zf_putG 4 (k513) rfl fpX7_35 (q := 5) dX7_readCommand_2 rfl rfl (by decide) (z_fit_i _) ?_
    refine zp_al0 (q := 6) dX7_readCommand_5 rfl ?_
    refine zf_getG (v := 0) 1 (k513) (by rw [z_up_sl (by decide)]; exact p1) rfl fdX7_18 (q := 9) dX7_readCommand_6 rfl rfl ?_
    refine zr_if_le (q := 23) (q2 := 12) dX7_readCommand_9 (by decide) rfl (fun h9 => ?_) (fun h9 => ?_)
    · exact s_X7_readCommand_t H1 hE (by rw [z_up_sl (by decide)]; exact p1) (by decide) h1 z_up_eq (fun a M' b => hy a M' (b.k K1)) (fun a M' b d => hn a M' (K1.t b) d)
    · exact absurd (by decide) h9
  · have hlt := zCh9_lt (L := L) (p := M 513 1) (by rw [p2]; decide) H.2.2.2
    have K2 : zRk9 M (z_up (z_up M 513 4 0) 513 1 (M 513 1 + 1)) := K1.t (zRk9.u (by decide) (by decide))
    have H2 := K2.h H
    refine z_enter (k := 0) rfl rfl rfl ?_
    refine zp_al0 (q := 1) dX7_readCommand_0 rfl ?_
    refine zr_iconst (q := 2) dX7_readCommand_1 rfl (z_in_of rfl) ?_
    refine zf_putG 4 (k513) rfl fpX7_35 (q := 5) dX7_readCommand_2 rfl rfl (by decide) (z_fit_i _) ?_
    refine zp_al0 (q := 6) dX7_readCommand_5 rfl ?_
    refine zf_getG (v := M 513 1) 1 (k513) (z_up_sl (by decide)) rfl fdX7_18 (q := 9) dX7_readCommand_6 rfl rfl ?_
    refine zr_if_le (q := 23) (q2 := 12) dX7_readCommand_9 (by decide) rfl (fun h9 => ?_) (fun h9 => ?_)
    · exact absurd h9 (by omega)
    · refine zp_al0 (q := 13) dX7_readCommand_12 rfl ?_
      refine zr_bipush (q := 15) dX7_readCommand_13 rfl (z_in_of rfl) (by decide +kernel) ?_
      refine zf_callV1 (k513) (s_X7_accept H1 (z_up_sl (by decide)) (by omega) (by omega) (by decide) p2) mtX7_accept wiX7_accept weX7_accept wlX7_48 (q := 18) dX7_readCommand_15 rfl rfl rfl rfl rfl rfl rfl (fun r S9 M9 h8 hP => ?_) (fun k S9 M9 hP => (z_no hP.1 rfl).elim)
      obtain ⟨rfl, rfl, h9⟩ := hP
      subst M9
      refine zr_if_ne (q := 23) (q2 := 21) dX7_readCommand_18 (by decide) rfl (fun h18 => ?_) (fun h18 => ?_)
      · exact s_X7_readCommand_t H2 hE (p := p) (by rw [z_up_eq, p3]) (by omega) h1 (by rw [z_up_sl (by decide), z_up_eq]) (fun a M' b => hy a M' (b.k K2)) (fun a M' b d => hn a M' (K2.t b) d)
      · exact absurd h18 (by decide)
theorem s_X7_readCommand (H : zRh M L) (hE : zEd (zCh9 L) n) {p : Int} (hp : zAt9 M (zCh9 L) p) (h1 : p ≤ n) (ho : zCo (zCh9 L) p) : z_Call mX7_readCommand zF [(1, 513)] M (fun r S' M' => r = (0, 1) ∧ S' = zF ∧ zRc M M' (zCh9 L) p) :=
  s_X7_readCommand_q H hE hp h1 (fun _ M' x => ⟨rfl, rfl, x⟩) (fun h => absurd ho h)
theorem s_X7_readCommand_x (H : zRh M L) (hE : zEd (zCh9 L) n) {p : Int} (hp : zAt9 M (zCh9 L) p) (h1 : p ≤ n) (ho : ¬ zCo (zCh9 L) p) : z_Call mX7_readCommand zF [(1, 513)] M (fun r S' M' => r = (0, 0) ∧ S' = zF ∧ zRk9 M M' ∧ M' 513 1 = zCe (zCh9 L) p) :=
  s_X7_readCommand_q H hE hp h1 (fun h => absurd h ho) (fun _ M' x y => ⟨rfl, rfl, x, y⟩)
theorem s_X7_readCommand_y (H : zRh M L) (h0 : 0 < M 513 1) (h1 : zCh9 L (M 513 1) ≠ 59) : z_Call mX7_readCommand zF [(1, 513)] M (zpF 0 0 (z_up M 513 4 0)) := by
  have K1 : zRk9 M (z_up M 513 4 0) := zRk9.u (by decide) (by decide)
  refine z_enter (k := 0) rfl rfl rfl ?_
  refine zp_al0 (q := 1) dX7_readCommand_0 rfl ?_
  refine zr_iconst (q := 2) dX7_readCommand_1 rfl (z_in_of rfl) ?_
  refine zf_putG 4 (k513) rfl fpX7_35 (q := 5) dX7_readCommand_2 rfl rfl (by decide) (z_fit_i _) ?_
  refine zp_al0 (q := 6) dX7_readCommand_5 rfl ?_
  refine zf_getG (v := M 513 1) 1 (k513) (z_up_sl (by decide)) rfl fdX7_18 (q := 9) dX7_readCommand_6 rfl rfl ?_
  refine zr_if_le (q := 23) (q2 := 12) dX7_readCommand_9 (by decide) rfl (fun h9 => ?_) (fun h9 => ?_)
  · exact absurd h9 (by omega)
  · refine zp_al0 (q := 13) dX7_readCommand_12 rfl ?_
    refine zr_bipush (q := 15) dX7_readCommand_13 rfl (z_in_of rfl) (by decide +kernel) ?_
    refine zf_callV1 (k513) (s_X7_accept_x (K1.h H) (z_up_sl (by decide)) (by decide) h1) mtX7_accept wiX7_accept weX7_accept wlX7_48 (q := 18) dX7_readCommand_15 rfl rfl rfl rfl rfl rfl rfl (fun r S9 M9 h8 hP => ?_) (fun k S9 M9 hP => (z_no hP.1 rfl).elim)
    obtain ⟨rfl, rfl, h9⟩ := hP
    subst M9
    refine zr_if_ne (q := 23) (q2 := 21) dX7_readCommand_18 (by decide) rfl (fun h18 => ?_) (fun h18 => ?_)
    · exact absurd rfl h18
    · refine zr_iconst (q := 22) dX7_readCommand_21 rfl (z_in_of rfl) ?_
      refine zr_ireturn dX7_readCommand_22 rfl (z_fit_z (by decide)) ?_
      exact ⟨rfl, rfl, rfl⟩
/-- where the reader stands before the k-th command -/
noncomputable def zQp (c : Int → Int) : Nat → Int
  | 0 => 0
  | k + 1 => zCe c (zPs9 c k)
theorem zQp_at {c : Int → Int} {k : Nat} {N : Nat} (hE : zEd c n) (hN : zOk9 c N) (hk : k ≤ N) {M : zM} (hM : M 513 1 = zQp c k) : zAt9 M c (zPs9 c k) ∧ 0 ≤ zPs9 c k ∧ zPs9 c k ≤ n ∧ 5 * (k : Int) ≤ zPs9 c k := by
  have h1 := zPs9_rg hE k (fun j hj => hN j (by omega))
  refine ⟨?_, by omega, h1.2, h1.1⟩
  cases k with
  | zero => exact Or.inl ⟨hM, rfl⟩
  | succ k =>
    have h2 := hN k (by omega)
    have h3 := zPs9_rg hE k (fun j hj => hN j (by omega))
    have h4 := (zCe_rg hE (p := zPs9 c k) (by omega) h3.2).2.2.2.2.2.2.2.1 h2.1
    have h5 : M 513 1 = zCe c (zPs9 c k) := hM
    refine Or.inr ⟨by omega, by rw [h5]; exact h2.2, ?_⟩
    rw [h5]
    rfl
theorem s_X7_countCommands_l (H : zRh M L) (hn : n = L.length) (hE : zEd (zCh9 L) n) {N : Nat} (hN : zLast (zCh9 L) N) {bc bs : Nat} {Q : zV → zS → zM → Prop}
    (hy : zTok (zCh9 L) n N → ∀ M', zRk9 M M' → M' 513 1 = n → Q (0, (N : Int) + 1) zF M') (hx : ¬ zTok (zCh9 L) n N → ∀ M', zRk9 M M' → M' 513 1 = zCe (zCh9 L) (zPs9 (zCh9 L) N) → Q (0, -1) zF M') :
    ∀ (m : Nat) (k : Nat) (M' : zM), k ≤ N + 1 → N + 1 - k < m → (k = N + 1 → zCo (zCh9 L) (zPs9 (zCh9 L) N) ∧ zCe (zCh9 L) (zPs9 (zCh9 L) N) ≠ n) → zRk9 M M' → M' 513 1 = zQp (zCh9 L) k →
    z_Ex mX7_countCommands zF 6 [(1, 513), (0, (k : Int) + 1)] [] M' bc bs Q := by
  intro m
  induction m with
  | zero => intro k M' a1 a2; omega
  | succ m ih =>
    intro k M' a1 a2 a3 hK hM
    have H' := hK.h H
    have hE1 := hE.2.1
    have hlen : M' 514 1 = n := by rw [H'.2.2.1.2.1, hn]
    have hNr := zPs9_rg hE N hN.1
    have hCr := zCe_rg hE (p := zPs9 (zCh9 L) N) (by omega) hNr.2
    by_cases ek : k ≤ N
    · obtain ⟨q1, q2, q3, q4⟩ := zQp_at hE hN.1 ek hM
      have hkr := zCe_rg hE q2 q3
      by_cases ec : zCo (zCh9 L) (zPs9 (zCh9 L) k)
      · have q5 := hkr.2.2.2.2.2.2.2.1 ec
        by_cases en : zCe (zCh9 L) (zPs9 (zCh9 L) k) = n
        · have ekN : k = N := by
            by_cases e : k < N
            · have := (hN.1 k e).2
              rw [en, hE.2.2.1 n (Int.le_refl _)] at this
              exact absurd this (by decide)
            · omega
          subst ekN
          refine zp_il1 (q := 7) dX7_countCommands_6 rfl ?_
          refine zr_bipush (q := 9) dX7_countCommands_7 rfl (z_in_of rfl) (by decide +kernel) ?_
          refine zr_icmp_gt (q := 43) (q2 := 12) dX7_countCommands_9 (by decide) rfl (fun h9 => ?_) (fun h9 => ?_)
          · exact absurd h9 (by omega)
          · refine zp_al0 (q := 13) dX7_countCommands_12 rfl ?_
            refine zf_callV0 (k513) (s_X7_readCommand H' hE q1 q3 ec) mtX7_readCommand wiX7_readCommand weX7_readCommand wlX7_41 (q := 16) dX7_countCommands_13 rfl rfl rfl rfl rfl rfl rfl (fun r S9 M9 h8 hP => ?_) (fun k S9 M9 hP => (z_no hP.1 rfl).elim)
            obtain ⟨rfl, rfl, x1, x2, x3⟩ := hP
            refine zr_if_ne (q := 21) (q2 := 19) dX7_countCommands_16 (by decide) rfl (fun h16 => ?_) (fun h16 => ?_)
            · refine zp_al0 (q := 22) dX7_countCommands_21 rfl ?_
              refine zf_getG (v := n) 1 (k513) (x2.trans en) rfl fdX7_18 (q := 25) dX7_countCommands_22 rfl rfl ?_
              refine zp_al0 (q := 26) dX7_countCommands_25 rfl ?_
              refine zf_getG (v := 514) 0 (k513) ((x1.h H').1) rfl fdX7_12 (q := 29) dX7_countCommands_26 rfl rfl ?_
              refine zf_getG (v := n) 1 (k514) (by rw [x1.1 514 (by decide) (by decide)]; exact hlen) rfl fdX7_45 (q := 32) dX7_countCommands_29 rfl rfl ?_
              refine zr_icmp_ne (q := 37) (q2 := 35) dX7_countCommands_32 (by decide) rfl (fun h32 => ?_) (fun h32 => ?_)
              · exact absurd rfl h32
              · refine zp_il1 (q := 36) dX7_countCommands_35 rfl ?_
                refine zr_ireturn dX7_countCommands_36 rfl (z_fit_i _) ?_
                exact hy ⟨ec, en⟩ M9 (hK.t x1) (x2.trans en)
            · exact absurd h16 (by decide)
        · skip
          refine zp_il1 (q := 7) dX7_countCommands_6 rfl ?_
          refine zr_bipush (q := 9) dX7_countCommands_7 rfl (z_in_of rfl) (by decide +kernel) ?_
          refine zr_icmp_gt (q := 43) (q2 := 12) dX7_countCommands_9 (by decide) rfl (fun h9 => ?_) (fun h9 => ?_)
          · exact absurd h9 (by omega)
          · refine zp_al0 (q := 13) dX7_countCommands_12 rfl ?_
            refine zf_callV0 (k513) (s_X7_readCommand H' hE q1 q3 ec) mtX7_readCommand wiX7_readCommand weX7_readCommand wlX7_41 (q := 16) dX7_countCommands_13 rfl rfl rfl rfl rfl rfl rfl (fun r S9 M9 h8 hP => ?_) (fun k S9 M9 hP => (z_no hP.1 rfl).elim)
            obtain ⟨rfl, rfl, x1, x2, x3⟩ := hP
            refine zr_if_ne (q := 21) (q2 := 19) dX7_countCommands_16 (by decide) rfl (fun h16 => ?_) (fun h16 => ?_)
            · refine zp_al0 (q := 22) dX7_countCommands_21 rfl ?_
              refine zf_getG (v := zCe (zCh9 L) (zPs9 (zCh9 L) k)) 1 (k513) (x2) rfl fdX7_18 (q := 25) dX7_countCommands_22 rfl rfl ?_
              refine zp_al0 (q := 26) dX7_countCommands_25 rfl ?_
              refine zf_getG (v := 514) 0 (k513) ((x1.h H').1) rfl fdX7_12 (q := 29) dX7_countCommands_26 rfl rfl ?_
              refine zf_getG (v := n) 1 (k514) (by rw [x1.1 514 (by decide) (by decide)]; exact hlen) rfl fdX7_45 (q := 32) dX7_countCommands_29 rfl rfl ?_
              refine zr_icmp_ne (q := 37) (q2 := 35) dX7_countCommands_32 (by decide) rfl (fun h32 => ?_) (fun h32 => ?_)
              · refine zp_inc1 (q := 40) dX7_countCommands_37 rfl rfl rfl (fun hA => by unfold z_in at hA ⊢; omega) ?_
                refine zr_goto (q := 6) dX7_countCommands_40 (by decide) ?_
                rw [show (k : Int) + 1 + 1 = ((k + 1 : Nat) : Int) + 1 by omega]
                exact ih (k + 1) M9 (by omega) (by omega) (fun e => by rw [show N = k by omega]; exact ⟨ec, en⟩) (hK.t x1) x2
              · exact absurd en h32
            · exact absurd h16 (by decide)
      · have ekN : k = N := by
          by_cases e : k < N
          · exact absurd (hN.1 k e).1 ec
          · omega
        subst ekN
        refine zp_il1 (q := 7) dX7_countCommands_6 rfl ?_
        refine zr_bipush (q := 9) dX7_countCommands_7 rfl (z_in_of rfl) (by decide +kernel) ?_
        refine zr_icmp_gt (q := 43) (q2 := 12) dX7_countCommands_9 (by decide) rfl (fun h9 => ?_) (fun h9 => ?_)
        · exact absurd h9 (by omega)
        · refine zp_al0 (q := 13) dX7_countCommands_12 rfl ?_
          refine zf_callV0 (k513) (s_X7_readCommand_x H' hE q1 q3 ec) mtX7_readCommand wiX7_readCommand weX7_readCommand wlX7_41 (q := 16) dX7_countCommands_13 rfl rfl rfl rfl rfl rfl rfl (fun r S9 M9 h8 hP => ?_) (fun k S9 M9 hP => (z_no hP.1 rfl).elim)
          obtain ⟨rfl, rfl, x1, x2⟩ := hP
          refine zr_if_ne (q := 21) (q2 := 19) dX7_countCommands_16 (by decide) rfl (fun h16 => ?_) (fun h16 => ?_)
          · exact absurd rfl h16
          · refine zr_iconst (q := 20) dX7_countCommands_19 rfl (z_in_of rfl) ?_
            refine zr_ireturn dX7_countCommands_20 rfl (z_fit_i _) ?_
            exact hx (fun h => ec h.1) M9 (hK.t x1) x2
    · have ekN : k = N + 1 := by omega
      subst ekN
      obtain ⟨b1, b2⟩ := a3 rfl
      have b3 : zCh9 L (zCe (zCh9 L) (zPs9 (zCh9 L) N)) ≠ 59 := fun e => hN.2 ⟨b1, e⟩
      have b4 := hCr.2.2.2.2.2.2.2.1 b1
      have b5 : M' 513 1 = zCe (zCh9 L) (zPs9 (zCh9 L) N) := hM
      refine zp_il1 (q := 7) dX7_countCommands_6 rfl ?_
      refine zr_bipush (q := 9) dX7_countCommands_7 rfl (z_in_of rfl) (by decide +kernel) ?_
      refine zr_icmp_gt (q := 43) (q2 := 12) dX7_countCommands_9 (by decide) rfl (fun h9 => ?_) (fun h9 => ?_)
      · exact absurd h9 (by omega)
      · refine zp_al0 (q := 13) dX7_countCommands_12 rfl ?_
        refine zf_callV0 (k513) (s_X7_readCommand_y H' (by omega) (by rw [b5]; exact b3)) mtX7_readCommand wiX7_readCommand weX7_readCommand wlX7_41 (q := 16) dX7_countCommands_13 rfl rfl rfl rfl rfl rfl rfl (fun r S9 M9 h8 hP => ?_) (fun k S9 M9 hP => (z_no hP.1 rfl).elim)
        obtain ⟨rfl, rfl, h9⟩ := hP
        subst M9
        refine zr_if_ne (q := 21) (q2 := 19) dX7_countCommands_16 (by decide) rfl (fun h16 => ?_) (fun h16 => ?_)
        · exact absurd rfl h16
        · refine zr_iconst (q := 20) dX7_countCommands_19 rfl (z_in_of rfl) ?_
          refine zr_ireturn dX7_countCommands_20 rfl (z_fit_i _) ?_
          exact hx (fun h => b2 h.2) _ (hK.t (zRk9.u (by decide) (by decide))) (by rw [z_up_sl (by decide)]; exact b5)
theorem s_X7_countCommands_q (H : zRh M L) (hn : n = L.length) (hE : zEd (zCh9 L) n) {N : Nat} (hN : zLast (zCh9 L) N) {Q : zV → zS → zM → Prop}
    (hy : zTok (zCh9 L) n N → ∀ M', zRk9 M M' → M' 513 1 = n → Q (0, (N : Int) + 1) zF M') (hx : ¬ zTok (zCh9 L) n N → ∀ M', zRk9 M M' → M' 513 1 = zCe (zCh9 L) (zPs9 (zCh9 L) N) → Q (0, -1) zF M') : z_Call mX7_countCommands zF [(1, 513)] M Q := by
  have K1 : zRk9 M (z_up M 513 1 0) := zRk9.u (by decide) (by decide)
  refine z_enter (k := 1) rfl rfl rfl ?_
  refine zp_al0 (q := 1) dX7_countCommands_0 rfl ?_
  refine zf_callV0 (k513) (s_X7_rewind) mtX7_rewind wiX7_rewind weX7_rewind wlX7_38 (q := 4) dX7_countCommands_1 rfl rfl rfl rfl rfl rfl rfl (fun r S9 M9 h8 hP => ?_) (fun k S9 M9 hP => (z_no hP.1 rfl).elim)
  obtain ⟨rfl, rfl, h9⟩ := hP
  subst M9
  refine zr_iconst (q := 5) dX7_countCommands_4 rfl (z_in_of rfl) ?_
  refine zp_is1 (q := 6) dX7_countCommands_5 rfl rfl rfl ?_
  exact s_X7_countCommands_l (K1.h H) hn hE hN (fun a M' b d => hy a M' (K1.t b) d) (fun a M' b d => hx a M' (K1.t b) d) (N + 2) 0 _ (by omega) (by omega) (fun h => by omega) (zRk9.r _) z_up_eq
theorem s_X7_countCommands (H : zRh M L) (hn : n = L.length) (hE : zEd (zCh9 L) n) {N : Nat} (hN : zLast (zCh9 L) N) (ho : zTok (zCh9 L) n N) : z_Call mX7_countCommands zF [(1, 513)] M (fun r S' M' => r = (0, (N : Int) + 1) ∧ S' = zF ∧ zRk9 M M' ∧ M' 513 1 = n) :=
  s_X7_countCommands_q H hn hE hN (fun _ M' x y => ⟨rfl, rfl, x, y⟩) (fun h => absurd ho h)
theorem s_X7_countCommands_x (H : zRh M L) (hn : n = L.length) (hE : zEd (zCh9 L) n) {N : Nat} (hN : zLast (zCh9 L) N) (ho : ¬ zTok (zCh9 L) n N) : z_Call mX7_countCommands zF [(1, 513)] M (fun r S' M' => r = (0, -1) ∧ S' = zF ∧ zRk9 M M' ∧ M' 513 1 = zCe (zCh9 L) (zPs9 (zCh9 L) N)) :=
  s_X7_countCommands_q H hn hE hN (fun h => absurd h ho) (fun _ M' x y => ⟨rfl, rfl, x, y⟩)
end ZRC
