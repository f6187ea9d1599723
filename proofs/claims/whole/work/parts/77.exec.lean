/-! dep: 70 71 72 73 74 75 76 -/
/-! ===== execute, in the class and in the reference ===== -/
/-- the row behind the first k commands -/
noncomputable def zGk (G c : Int → Int) : Nat → Int → Int
  | 0 => G
  | k + 1 => gX9 (zGk G c k) c (zPs9 c k)
theorem zGk_w {G c : Int → Int} (hG : zWF G) : ∀ k : Nat, (∀ j : Nat, j < k → zCo c (zPs9 c j)) → (∀ j : Nat, j < k → zXo9 (zGk G c j) c (zPs9 c j)) → zWF (zGk G c k) := by
  intro k
  induction k with
  | zero => intro _ _; exact hG
  | succ k ih =>
    intro h1 h2
    have := zWw_rg c (zPs9 c k)
    exact gX9_w (ih (fun j hj => h1 j (by omega)) (fun j hj => h2 j (by omega))) ⟨(h1 k (by omega)).1, this.2⟩ (h2 k (by omega))
section ZEX
variable {M : zM} {G c : Int → Int} {L : List Int} {n : Int} {p : Int}
abbrev zpY (G c : Int → Int) (p : Int) (M : zM) : zV → zS → zM → Prop := fun r S' M' => ∃ y, r = (1, y) ∧ S' = zF ∧ (∀ z, z < 2 ∨ 46 ≤ z → z < 488 ∨ 509 < z → M' z = M z) ∧ zHc M' ∧ zHp M' ∧ ((y = -1 ∧ zXo9 G c p ∧ zAR M' 2 (gX9 G c p)) ∨ ((-10 ≤ y ∧ y ≤ -2) ∧ ¬ zXo9 G c p ∧ zHa M' 2))
theorem s_X11_carryOut (Hw : zHw M) (h3 : M 513 3 = 516) (R : zAR M 2 G) (hG : zWF G) (Hc : zHc M) (Hp : zHp M) (hw : 0 ≤ zWw c p ∧ zWw c p < 8) (h2 : M 513 2 = -(11 + zWw c p)) (hN : zNu M c p) (hf : 0 ≤ zFw9 c (zq3 c p) ∧ zFw9 c (zq3 c p) ≤ 28) : z_Call mX11_carryOut zF [(1, 1)] M (zpY G c p M) :=
  s_X11_carryOut_q Hw h3 R hG Hc Hp hw h2 hN hf (fun a M1 b d e f => ⟨-1, rfl, rfl, d, e, f, Or.inl ⟨rfl, a, b⟩⟩) (fun a y M1 b d e f g => ⟨y, rfl, rfl, e, f, g, Or.inr ⟨b, a, d⟩⟩)
/-- what carrying out leaves as it was -/
def zEv (M M' : zM) : Prop := (∀ z, z < 2 ∨ 46 ≤ z → z < 488 ∨ 509 < z → z ≠ 513 → z ≠ 516 → M' z = M z) ∧ M' 513 0 = M 513 0 ∧ M' 513 3 = M 513 3 ∧ zHc M' ∧ zHp M'
theorem zEv.h {M' : zM} (h : zEv M M') (H : zRh M L) : zRh M' L := by
  obtain ⟨a, b, d, e⟩ := H
  exact ⟨h.2.1.trans a, h.2.2.1.trans b, d.of (h.1 514 (by decide) (by decide) (by decide) (by decide)) (h.1 515 (by decide) (by decide) (by decide) (by decide)), e⟩
theorem zEv.k {M1 M2 : zM} (h : zEv M M1) (h2 : zRk9 M1 M2) : zEv M M2 :=
  ⟨fun z a b d e => (h2.1 z d e).trans (h.1 z a b d e), h2.2.1.trans h.2.1, h2.2.2.trans h.2.2.1, h.2.2.2.1.of (fun z a b => h2.1 z (by omega) (by omega)), h.2.2.2.2.of (fun z a b => h2.1 z (by omega) (by omega))⟩
theorem zEv.y {M1 M2 : zM} (h : zEv M M1) (h2 : ∀ z, z < 2 ∨ 46 ≤ z → z < 488 ∨ 509 < z → M2 z = M1 z) (hc : zHc M2) (hp : zHp M2) : zEv M M2 :=
  ⟨fun z a b d e => (h2 z a b).trans (h.1 z a b d e), by rw [h2 513 (by decide) (by decide)]; exact h.2.1, by rw [h2 513 (by decide) (by decide)]; exact h.2.2.1, hc, hp⟩
theorem s_X11_carryOutAll_l (Hw : zHw M) (hG : zWF G) (Rb : zAR M 46 G) (H : zRh M L) (hE : zEd (zCh9 L) n) {N : Nat} (hN : zLast (zCh9 L) N) (hA : ∀ j : Nat, j ≤ N → zCo (zCh9 L) (zPs9 (zCh9 L) j)) {bc bs : Nat} {Q : zV → zS → zM → Prop}
    (hy : (∀ j : Nat, j < N + 1 → zXo9 (zGk G (zCh9 L) j) (zCh9 L) (zPs9 (zCh9 L) j)) → ∀ M', zEv M M' → zAR M' 2 (zGk G (zCh9 L) (N + 1)) → z_Ex mX11_carryOutAll zF 64 [(1, 1), (0, (N : Int) + 1), (0, (N : Int) + 1)] [] M' bc bs Q)
    (hx : ∀ k : Nat, k ≤ N → (∀ j : Nat, j < k → zXo9 (zGk G (zCh9 L) j) (zCh9 L) (zPs9 (zCh9 L) j)) → ¬ zXo9 (zGk G (zCh9 L) k) (zCh9 L) (zPs9 (zCh9 L) k) → ∀ M', zEv M M' → zAR M' 2 G → Q (0, (k : Int)) zF M') :
    ∀ (m : Nat) (k : Nat) (M' : zM), k ≤ N + 1 → N + 1 - k < m → zEv M M' → M' 513 1 = zQp (zCh9 L) k → zAR M' 2 (zGk G (zCh9 L) k) → (∀ j : Nat, j < k → zXo9 (zGk G (zCh9 L) j) (zCh9 L) (zPs9 (zCh9 L) j)) →
    z_Ex mX11_carryOutAll zF 20 [(1, 1), (0, (N : Int) + 1), (0, (k : Int))] [] M' bc bs Q := by
  intro m
  induction m with
  | zero => intro k M' a1 a2; omega
  | succ m ih =>
    intro k M' a1 a2 hV hP hR hj
    have Hw' : zHw M' := Hw.of (hV.1 1 (by decide) (by decide) (by decide) (by decide))
    have H' := hV.h H
    have hE1 := hE.2.1
    by_cases ek : k ≤ N
    · obtain ⟨q1, q2, q3, q4⟩ := zQp_at hE hN.1 ek hP
      have ec := hA k ek
      have hw9 := zWw_rg (zCh9 L) (zPs9 (zCh9 L) k)
      have hrg := zCe_rg hE q2 q3
      have fm := zFm_end hE.2.2.1 60 (zq3 (zCh9 L) (zPs9 (zCh9 L) k)) (by omega)
      have fr := zFm_range (zCh9 L) 60 (zq3 (zCh9 L) (zPs9 (zCh9 L) k))
      have fe : zFm (zCh9 L) 60 (zq3 (zCh9 L) (zPs9 (zCh9 L) k)) = zFw9 (zCh9 L) (zq3 (zCh9 L) (zPs9 (zCh9 L) k)) := rfl
      rw [fe] at fm fr
      have g10 := hrg.2.2.2.2.2.2.2.2 ec.1
      have hwf := zGk_w hG k (fun j hj => hA j (by omega)) hj
      refine zp_il2 (q := 21) dX11_carryOutAll_20 rfl ?_
      refine zp_il1 (q := 22) dX11_carryOutAll_21 rfl ?_
      refine zr_icmp_ge (q := 64) (q2 := 25) dX11_carryOutAll_22 (by decide) rfl (fun h22 => ?_) (fun h22 => ?_)
      · exact absurd h22 (by omega)
      · refine zp_al0 (q := 26) dX11_carryOutAll_25 rfl ?_
        refine zf_getG (v := 513) 9 (k1) (Hw'.re) rfl fdX11_61 (q := 29) dX11_carryOutAll_26 rfl rfl ?_
        refine zf_callV0 (k513) (s_X7_readCommand H' hE q1 q3 ec) mtX7_readCommand wiX7_readCommand weX7_readCommand wlX11_379 (q := 32) dX11_carryOutAll_29 rfl rfl rfl rfl rfl rfl rfl (fun r S9 M9 h8 hP => ?_) (fun k S9 M9 hP => (z_no hP.1 rfl).elim)
        obtain ⟨rfl, rfl, x1, x2, x3, x4⟩ := hP
        have V1 := hV.k x1
        have R1 := hR.of hwf (fun z z0 z1 => x1.1 z (by omega) (by omega))
        have Hw1 : zHw M9 := Hw'.of (x1.1 1 (by decide) (by decide))
        have ex : ∃ M1, M1 = M9 := ⟨M9, rfl⟩
        obtain ⟨M1, e1⟩ := ex
        rw [← e1] at x1 x2 x3 x4 V1 R1 Hw1 ⊢
        clear e1 M9
        refine zr_if_eq (q := 45) (q2 := 35) dX11_carryOutAll_32 (by decide) rfl (fun h32 => ?_) (fun h32 => ?_)
        · exact absurd h32 (by decide)
        · refine zp_al0 (q := 36) dX11_carryOutAll_35 rfl ?_
          refine zf_callV0 (k1) (s_X11_carryOut Hw1 (x1.h H').2.1 R1 hwf V1.2.2.2.1 V1.2.2.2.2 ⟨ec.1, hw9.2⟩ x3 x4 (by omega)) mtX11_carryOut wiX11_carryOut weX11_carryOut wlX11_383 (q := 39) dX11_carryOutAll_36 rfl rfl rfl rfl rfl rfl rfl (fun r S9 M9 h8 hP => ?_) (fun k S9 M9 hP => by obtain ⟨x9, hx9, _⟩ := hP; exact (z_no hx9 rfl).elim)
          obtain ⟨y, rfl, rfl, f1, f2, f3, hh⟩ := hP
          have V2 := V1.y f1 f2 f3
          have Hw2 : zHw M9 := Hw1.of (f1 1 (by decide) (by decide))
          have Rb2 : zAR M9 46 G := Rb.of hG (fun z a b => V2.1 z (by omega) (by omega) (by omega) (by omega))
          have hyr : -10 ≤ y ∧ y ≤ -1 := hh.elim (fun q => by have := q.1; omega) (fun q => by have := q.1; omega)
          refine zr_gets (v := (1, -1)) (Cn := "WindElection$Fault") (n := "NONE") (d := "LWindElection$Fault;") (fun C s h => zs_F 0 (by decide) h) (fun _ => z_in_of rfl) (z_all_in (i := 1012) (by decide +kernel) (by decide +kernel)) dX11_carryOutAll_39 rfl ?_
          refine zr_acmp_eq (q := 58) (q2 := 45) (fun hne => z_injF' (by omega) (by omega) hne) dX11_carryOutAll_42 (by decide) rfl (fun h42 => ?_) (fun h42 => ?_)
          · have hgood : zXo9 (zGk G (zCh9 L) k) (zCh9 L) (zPs9 (zCh9 L) k) ∧ zAR M9 2 (gX9 (zGk G (zCh9 L) k) (zCh9 L) (zPs9 (zCh9 L) k)) := hh.elim (fun q => q.2) (fun q => by have := q.1; omega)
            refine zp_inc2 (q := 61) dX11_carryOutAll_58 rfl rfl rfl (fun hA => by unfold z_in at hA ⊢; omega) ?_
            refine zr_goto (q := 20) dX11_carryOutAll_61 (by decide) ?_
            rw [show (k : Int) + 1 = ((k + 1 : Nat) : Int) by omega]
            refine ih (k + 1) M9 (by omega) (by omega) V2 ?_ hgood.2 (fun j hj2 => ?_)
            · rw [f1 513 (by decide) (by decide)]
              exact x2
            · by_cases e : j = k
              · rw [e]
                exact hgood.1
              · exact hj j (by omega)
          · have hbad : (-10 ≤ y ∧ y ≤ -2) ∧ ¬ zXo9 (zGk G (zCh9 L) k) (zCh9 L) (zPs9 (zCh9 L) k) ∧ zHa M9 2 := hh.elim (fun q => absurd q.1 h42) id
            refine zp_al0 (q := 46) dX11_carryOutAll_45 rfl ?_
            refine zf_getG (v := 2) 0 (k1) (Hw2.as) rfl fdX11_10 (q := 49) dX11_carryOutAll_46 rfl rfl ?_
            refine zp_al0 (q := 50) dX11_carryOutAll_49 rfl ?_
            refine zf_getG (v := 46) 1 (k1) (Hw2.be) rfl fdX11_16 (q := 53) dX11_carryOutAll_50 rfl rfl ?_
            refine zf_callV1 (by first | assumption | exact k2 | exact k46 | exact k90) (s_X1_copyFrom as2 as46 (by decide) hbad.2.2 Rb2 hG) mtX1_copyFrom wiX1_copyFrom weX1_copyFrom wlX11_72 (q := 56) dX11_carryOutAll_53 rfl rfl rfl rfl rfl rfl rfl (fun r S9 M9 h8 hP => ?_) (fun k S9 M9 hP => (z_no hP.1 rfl).elim)
            obtain ⟨rfl, rfl, R3, F3⟩ := hP
            refine zp_il2 (q := 57) dX11_carryOutAll_56 rfl ?_
            refine zr_ireturn dX11_carryOutAll_57 rfl (z_fit_i _) ?_
            exact hx k ek hj hbad.2.1 M9 (V2.y (fun z a b => F3 z (by omega)) (V2.2.2.2.1.of (fun z a b => F3 z (by omega))) (V2.2.2.2.2.of (fun z a b => F3 z (by omega)))) R3
    · have ekN : k = N + 1 := by omega
      subst ekN
      rw [show (((N + 1 : Nat)) : Int) = (N : Int) + 1 by omega]
      refine zp_il2 (q := 21) dX11_carryOutAll_20 rfl ?_
      refine zp_il1 (q := 22) dX11_carryOutAll_21 rfl ?_
      refine zr_icmp_ge (q := 64) (q2 := 25) dX11_carryOutAll_22 (by decide) rfl (fun h22 => ?_) (fun h22 => ?_)
      · exact hy hj M' hV hR
      · exact absurd (by omega) h22
/-- all commands are carried out -/
def zXa (M M' : zM) (G G' : Int → Int) : Prop := zAR M' 2 G' ∧ zHa M' 46 ∧ zRm M M' G ∧ zHc M' ∧ zHp M' ∧ (M' 513 0 = M 513 0 ∧ M' 513 3 = M 513 3) ∧ ∀ z, z < 2 ∨ 90 ≤ z → z ≠ 134 → z < 136 + 44 * zNx M ∨ 180 + 44 * zNx M ≤ z → z < 488 ∨ 509 < z → z ≠ 513 → z ≠ 516 → M' z = M z
/-- none is -/
def zXb (M M' : zM) (G : Int → Int) : Prop := zAR M' 2 G ∧ zHa M' 46 ∧ zHc M' ∧ zHp M' ∧ (M' 513 0 = M 513 0 ∧ M' 513 3 = M 513 3) ∧ ∀ z, z < 2 ∨ 90 ≤ z → z < 488 ∨ 509 < z → z ≠ 513 → z ≠ 516 → M' z = M z
theorem s_X11_carryOutAll_t (Hw : zHw M) (Hh : zHh M) (Rb : zAR M 46 G) (hG : zWF G) {a b : Int} {bc bs : Nat} {Q : zV → zS → zM → Prop} (hQ : ∀ M', zRm M M' G → (∀ z, z ≠ 134 → z < 136 + 44 * zNx M ∨ 180 + 44 * zNx M ≤ z → M' z = M z) → Q (0, -1) zF M') : z_Ex mX11_carryOutAll zF 64 [(1, 1), (0, a), (0, b)] [] M bc bs Q := by
  refine zp_al0 (q := 65) dX11_carryOutAll_64 rfl ?_
  refine zf_getG (v := 134) 4 (k1) (Hw.hi) rfl fdX11_29 (q := 68) dX11_carryOutAll_65 rfl rfl ?_
  refine zp_al0 (q := 69) dX11_carryOutAll_68 rfl ?_
  refine zf_getG (v := 46) 1 (k1) (Hw.be) rfl fdX11_16 (q := 72) dX11_carryOutAll_69 rfl rfl ?_
  refine zf_callV1 (k134) (s_X5_remember Hh Rb hG) mtX5_remember wiX5_remember weX5_remember wlX11_339 (q := 75) dX11_carryOutAll_72 rfl rfl rfl rfl rfl rfl rfl (fun r S9 M9 h8 hP => ?_) (fun k S9 M9 hP => (z_no hP.1 rfl).elim)
  obtain ⟨rfl, rfl, x1, x2⟩ := hP
  refine zr_iconst (q := 76) dX11_carryOutAll_75 rfl (z_in_of rfl) ?_
  refine zr_ireturn dX11_carryOutAll_76 rfl (z_fit_i _) ?_
  exact hQ M9 x1 x2
theorem s_X11_carryOutAll_q (Hw : zHw M) (Hb : zHa M 46) (Hh : zHh M) (R : zAR M 2 G) (hG : zWF G) (Hc : zHc M) (Hp : zHp M) (H : zRh M L) (hE : zEd (zCh9 L) n) {N : Nat} (hN : zLast (zCh9 L) N) (hA : ∀ j : Nat, j ≤ N → zCo (zCh9 L) (zPs9 (zCh9 L) j)) {Q : zV → zS → zM → Prop}
    (hy : (∀ j : Nat, j < N + 1 → zXo9 (zGk G (zCh9 L) j) (zCh9 L) (zPs9 (zCh9 L) j)) → ∀ M', zXa M M' G (zGk G (zCh9 L) (N + 1)) → Q (0, -1) zF M')
    (hx : ∀ k : Nat, k ≤ N → (∀ j : Nat, j < k → zXo9 (zGk G (zCh9 L) j) (zCh9 L) (zPs9 (zCh9 L) j)) → ¬ zXo9 (zGk G (zCh9 L) k) (zCh9 L) (zPs9 (zCh9 L) k) → ∀ M', zXb M M' G → Q (0, (k : Int)) zF M') :
    z_Call mX11_carryOutAll zF [(1, 1), (0, (N : Int) + 1)] M Q := by
  have hp0 := zNx_range Hh
  have hNr := zPs9_rg hE N hN.1
  have hE1 := hE.2.1
  refine z_enter (k := 1) rfl rfl rfl ?_
  refine zp_al0 (q := 1) dX11_carryOutAll_0 rfl ?_
  refine zf_getG (v := 46) 1 (k1) (Hw.be) rfl fdX11_16 (q := 4) dX11_carryOutAll_1 rfl rfl ?_
  refine zp_al0 (q := 5) dX11_carryOutAll_4 rfl ?_
  refine zf_getG (v := 2) 0 (k1) (Hw.as) rfl fdX11_10 (q := 8) dX11_carryOutAll_5 rfl rfl ?_
  refine zf_callV1 (by first | assumption | exact k2 | exact k46 | exact k90) (s_before Hb R hG) mtX1_copyFrom wiX1_copyFrom weX1_copyFrom wlX11_72 (q := 11) dX11_carryOutAll_8 rfl rfl rfl rfl rfl rfl rfl (fun r S9 M9 h8 hP => ?_) (fun k S9 M9 hP => (z_no hP.1 rfl).elim)
  obtain ⟨rfl, rfl, R1, F1⟩ := hP
  have Hw1 : zHw M9 := Hw.of (F1 1 (by omega))
  have H1 : zRh M9 L := ⟨by rw [F1 513 (by omega)]; exact H.1, by rw [F1 513 (by omega)]; exact H.2.1, H.2.2.1.of (F1 514 (by omega)) (F1 515 (by omega)), H.2.2.2⟩
  have R2 := R.of hG (fun z z0 z1 => F1 z (by omega))
  have ex : ∃ M1, M1 = M9 := ⟨M9, rfl⟩
  obtain ⟨M1, e1⟩ := ex
  rw [← e1] at R1 F1 Hw1 H1 R2 ⊢
  clear e1 M9
  refine zp_al0 (q := 12) dX11_carryOutAll_11 rfl ?_
  refine zf_getG (v := 513) 9 (k1) (Hw1.re) rfl fdX11_61 (q := 15) dX11_carryOutAll_12 rfl rfl ?_
  refine zf_callV0 (k513) (s_X7_rewind) mtX7_rewind wiX7_rewind weX7_rewind wlX11_376 (q := 18) dX11_carryOutAll_15 rfl rfl rfl rfl rfl rfl rfl (fun r S9 M9 h8 hP => ?_) (fun k S9 M9 hP => (z_no hP.1 rfl).elim)
  obtain ⟨rfl, rfl, h9⟩ := hP
  subst M9
  refine zr_iconst (q := 19) dX11_carryOutAll_18 rfl (z_in_of rfl) ?_
  refine zp_is2 (q := 20) dX11_carryOutAll_19 rfl rfl rfl ?_
  have K1 : zRk9 M1 (z_up M1 513 1 0) := zRk9.u (by decide) (by decide)
  have V1 : zEv M1 M1 := ⟨fun _ _ _ _ _ => rfl, rfl, rfl, Hc.of (fun z a b => F1 z (by omega)), Hp.of (fun z a b => F1 z (by omega))⟩
  refine s_X11_carryOutAll_l Hw1 hG R1 H1 hE hN hA (fun ha M2 V2 R3 => ?_) (fun k k0 ka kb M2 V2 R3 => hx k k0 ka kb M2 ⟨R3, R1.h.of (fun z a b => V2.1 z (by omega) (by omega) (by omega) (by omega)), V2.2.2.2.1, V2.2.2.2.2, ⟨V2.2.1.trans (by rw [F1 513 (by omega)]), V2.2.2.1.trans (by rw [F1 513 (by omega)])⟩, fun z a b d e => (V2.1 z (by omega) b d e).trans (F1 z (by omega))⟩) (N + 2) 0 _ (by omega) (by omega) (V1.k K1) z_up_eq (R2.of hG (fun z a b => z_up_ne (by omega))) (fun j hj => by omega)
  have e2 : ∀ z, z < 2 ∨ 90 ≤ z → z < 488 ∨ 509 < z → z ≠ 513 → z ≠ 516 → M2 z = M z := fun z a b d e => (V2.1 z (by omega) b d e).trans (F1 z (by omega))
  have Hh2 : zHh M2 := Hh.of (fun z a b => e2 z (by omega) (by omega) (by omega) (by omega))
  have Hw2 : zHw M2 := Hw.of (e2 1 (by omega) (by omega) (by omega) (by omega))
  have Rb2 : zAR M2 46 G := R1.of hG (fun z a b => V2.1 z (by omega) (by omega) (by omega) (by omega))
  have en : zNx M2 = zNx M := by unfold zNx; rw [e2 134 (by omega) (by omega) (by omega) (by omega)]
  have hwf := zGk_w hG (N + 1) (fun j hj => hA j (by omega)) ha
  refine s_X11_carryOutAll_t Hw2 Hh2 Rb2 hG (fun M9 x1 x2 => ?_)
  rw [en] at x2
  unfold zRm at x1
  rw [en, e2 134 (by omega) (by omega) (by omega) (by omega)] at x1
  exact hy ha M9 ⟨R3.of hwf (fun z a b => x2 z (by omega) (by omega)), R1.h.of (fun z a b => (x2 z (by omega) (by omega)).trans (V2.1 z (by omega) (by omega) (by omega) (by omega))), x1, V2.2.2.2.1.of (fun z a b => x2 z (by omega) (by omega)), V2.2.2.2.2.of (fun z a b => x2 z (by omega) (by omega)), ⟨by rw [x2 513 (by omega) (by omega)]; exact V2.2.1.trans (by rw [F1 513 (by omega)]), by rw [x2 513 (by omega) (by omega)]; exact V2.2.2.1.trans (by rw [F1 513 (by omega)])⟩, fun z a b d e f g => (x2 z b d).trans (e2 z a e f g)⟩
theorem s_X11_carryOutAll (Hw : zHw M) (Hb : zHa M 46) (Hh : zHh M) (R : zAR M 2 G) (hG : zWF G) (Hc : zHc M) (Hp : zHp M) (H : zRh M L) (hE : zEd (zCh9 L) n) {N : Nat} (hN : zLast (zCh9 L) N) (hA : ∀ j : Nat, j ≤ N → zCo (zCh9 L) (zPs9 (zCh9 L) j)) (ha : ∀ j : Nat, j < N + 1 → zXo9 (zGk G (zCh9 L) j) (zCh9 L) (zPs9 (zCh9 L) j)) :
    z_Call mX11_carryOutAll zF [(1, 1), (0, (N : Int) + 1)] M (fun r S' M' => r = (0, -1) ∧ S' = zF ∧ zXa M M' G (zGk G (zCh9 L) (N + 1))) :=
  s_X11_carryOutAll_q Hw Hb Hh R hG Hc Hp H hE hN hA (fun _ M' x => ⟨rfl, rfl, x⟩) (fun k k0 _ h => absurd (ha k (by omega)) h)
theorem s_X11_carryOutAll_x (Hw : zHw M) (Hb : zHa M 46) (Hh : zHh M) (R : zAR M 2 G) (hG : zWF G) (Hc : zHc M) (Hp : zHp M) (H : zRh M L) (hE : zEd (zCh9 L) n) {N : Nat} (hN : zLast (zCh9 L) N) (hA : ∀ j : Nat, j ≤ N → zCo (zCh9 L) (zPs9 (zCh9 L) j)) {k : Nat} (hk : k ≤ N) (ha : ∀ j : Nat, j < k → zXo9 (zGk G (zCh9 L) j) (zCh9 L) (zPs9 (zCh9 L) j)) (hb : ¬ zXo9 (zGk G (zCh9 L) k) (zCh9 L) (zPs9 (zCh9 L) k)) :
    z_Call mX11_carryOutAll zF [(1, 1), (0, (N : Int) + 1)] M (fun r S' M' => r = (0, (k : Int)) ∧ S' = zF ∧ zXb M M' G) :=
  s_X11_carryOutAll_q Hw Hb Hh R hG Hc Hp H hE hN hA (fun h => absurd (h k (by omega)) hb) (fun i i0 i1 i2 M' x => by
    have e : i = k := by
      by_cases h1 : i < k
      · exact absurd (ha i h1) i2
      · by_cases h2 : k < i
        · exact absurd (i1 k h2) hb
        · omega
    exact ⟨by rw [e], rfl, x⟩)
theorem zHw.u (h : zHw M) {j v : Int} (hj : 10 ≤ j) : zHw (z_up M 1 j v) := by
  unfold zHw at h ⊢
  rw [z_up_sl (by omega), z_up_sl (by omega), z_up_sl (by omega), z_up_sl (by omega), z_up_sl (by omega), z_up_sl (by omega), z_up_sl (by omega), z_up_sl (by omega), z_up_sl (by omega)]
  exact h
theorem zTok.co {c : Int → Int} {n : Int} {N : Nat} (h : zTok c n N) (hN : zLast c N) : ∀ j : Nat, j ≤ N → zCo c (zPs9 c j) := by
  intro j hj
  by_cases e : j = N
  · rw [e]; exact h.1
  · exact (hN.1 j (by omega)).1
/-- execute went through -/
def zEa (M M' : zM) (G G' : Int → Int) : Prop := zAR M' 2 G' ∧ zHa M' 46 ∧ zRm M M' G ∧ zHc M' ∧ zHp M' ∧ (M' 513 0 = M 513 0 ∧ M' 513 3 = M 513 3) ∧ zTx M' 514 [] ∧ ∀ z, z < 2 ∨ 90 ≤ z → z ≠ 134 → z < 136 + 44 * zNx M ∨ 180 + 44 * zNx M ≤ z → z < 488 ∨ 509 < z → z < 513 ∨ 516 < z → M' z = M z
/-- a command failed -/
def zEb (M M' : zM) (G : Int → Int) (k : Int) : Prop := zAR M' 2 G ∧ zHa M' 46 ∧ zHc M' ∧ zHp M' ∧ (M' 513 0 = M 513 0 ∧ M' 513 3 = M 513 3) ∧ zTx M' 514 [] ∧ (M' 1 11 = k ∧ ∀ j, j ≠ 11 → M' 1 j = M 1 j) ∧ ∀ z, z < 1 ∨ 90 ≤ z → z < 488 ∨ 509 < z → z < 513 ∨ 516 < z → M' z = M z
/-- the text is none -/
def zEc (M M' : zM) (e : Int) : Prop := (M' 513 0 = M 513 0 ∧ M' 513 3 = M 513 3) ∧ zTx M' 514 [] ∧ (M' 1 10 = e ∧ ∀ j, j ≠ 10 → M' 1 j = M 1 j) ∧ ∀ z, z ≠ 1 → z < 513 ∨ 516 < z → M' z = M z
theorem s_X11_execute (Hw : zHw M) (Hb : zHa M 46) (Hh : zHh M) (R : zAR M 2 G) (hG : zWF G) (Hc : zHc M) (Hp : zHp M) (H : zRh M L) (hn : n = L.length) (hE : zEd (zCh9 L) n) {N : Nat} (hN : zLast (zCh9 L) N) (hT : zTok (zCh9 L) n N) (ha : ∀ j : Nat, j < N + 1 → zXo9 (zGk G (zCh9 L) j) (zCh9 L) (zPs9 (zCh9 L) j)) :
    z_Call mX11_execute zF [(1, 1)] M (fun r S' M' => r = (0, (N : Int) + 1) ∧ S' = zF ∧ zEa M M' G (zGk G (zCh9 L) (N + 1))) := by
  have hNr := zPs9_rg hE N hN.1
  have hE1 := hE.2.1
  have hwf := zGk_w hG (N + 1) (fun j hj => hT.co hN j (by omega)) ha
  have hp0 := zNx_range Hh
  refine z_enter (k := 2) rfl rfl rfl ?_
  refine zp_al0 (q := 1) dX11_execute_0 rfl ?_
  refine zf_getG (v := 513) 9 (k1) (Hw.re) rfl fdX11_61 (q := 4) dX11_execute_1 rfl rfl ?_
  refine zf_callV0 (k513) (s_X7_countCommands H hn hE hN hT) mtX7_countCommands wiX7_countCommands weX7_countCommands wlX11_293 (q := 7) dX11_execute_4 rfl rfl rfl rfl rfl rfl rfl (fun r S9 M9 h8 hP => ?_) (fun k S9 M9 hP => (z_no hP.1 rfl).elim)
  obtain ⟨rfl, rfl, x1, x2⟩ := hP
  have Hw1 : zHw M9 := Hw.of (x1.1 1 (by decide) (by decide))
  have en : zNx M9 = zNx M := by unfold zNx; rw [x1.1 134 (by decide) (by decide)]
  have H1 := x1.h H
  have sA := s_X11_carryOutAll Hw1 (Hb.of (fun z a b => x1.1 z (by omega) (by omega))) (Hh.of (fun z a b => x1.1 z (by omega) (by omega))) (R.of hG (fun z a b => x1.1 z (by omega) (by omega))) hG (Hc.of (fun z a b => x1.1 z (by omega) (by omega))) (Hp.of (fun z a b => x1.1 z (by omega) (by omega))) H1 hE hN (hT.co hN) ha
  have ex : ∃ M1, M1 = M9 := ⟨M9, rfl⟩
  obtain ⟨M1, e1⟩ := ex
  rw [← e1] at x1 x2 Hw1 en H1 sA ⊢
  clear e1 M9
  refine zp_is1 (q := 8) dX11_execute_7 rfl rfl rfl ?_
  refine zp_il1 (q := 9) dX11_execute_8 rfl ?_
  refine zr_iconst (q := 10) dX11_execute_9 rfl (z_in_of rfl) ?_
  refine zr_icmp_ne (q := 17) (q2 := 13) dX11_execute_10 (by decide) rfl (fun h10 => ?_) (fun h10 => ?_)
  · refine zp_al0 (q := 18) dX11_execute_17 rfl ?_
    refine zp_il1 (q := 19) dX11_execute_18 rfl ?_
    refine zf_callV1 (k1) (sA) mtX11_carryOutAll wiX11_carryOutAll weX11_carryOutAll wlX11_296 (q := 22) dX11_execute_19 rfl rfl rfl rfl rfl rfl rfl (fun r S9 M9 h8 hP => ?_) (fun k S9 M9 hP => (z_no hP.1 rfl).elim)
    obtain ⟨rfl, rfl, y1⟩ := hP
    unfold zXa at y1
    rw [en] at y1
    obtain ⟨y1, y2, y3, y4, y5, y6, y7⟩ := y1
    have Hw2 : zHw M9 := Hw1.of (y7 1 (by omega) (by omega) (by omega) (by omega) (by omega) (by omega))
    have t0 : M9 514 0 = 515 := by rw [y7 514 (by omega) (by omega) (by omega) (by omega) (by omega) (by omega)]; exact H1.2.2.1.1
    refine zp_is2 (q := 23) dX11_execute_22 rfl rfl rfl ?_
    refine zp_al0 (q := 24) dX11_execute_23 rfl ?_
    refine zf_getG (v := 513) 9 (k1) (Hw2.re) rfl fdX11_61 (q := 27) dX11_execute_24 rfl rfl ?_
    refine zf_getG (v := 514) 0 (k513) (y6.1.trans H1.1) rfl fdX11_285 (q := 30) dX11_execute_27 rfl rfl ?_
    refine zf_callV0 (k514) (s_X9_clear (Or.inr rfl) t0) mtX9_clear wiX9_clear weX9_clear wlX11_246 (q := 33) dX11_execute_30 rfl rfl rfl rfl rfl rfl rfl (fun r S9 M9 h8 hP => ?_) (fun k S9 M9 hP => (z_no hP.1 rfl).elim)
    obtain ⟨rfl, rfl, z1, z2⟩ := hP
    refine zp_il1 (q := 34) dX11_execute_33 rfl ?_
    refine zr_iconst (q := 35) dX11_execute_34 rfl (z_in_of rfl) ?_
    refine zr_icmp_ne (q := 60) (q2 := 38) dX11_execute_35 (by decide) rfl (fun h35 => ?_) (fun h35 => ?_)
    · refine zp_il2 (q := 61) dX11_execute_60 rfl ?_
      refine zr_iconst (q := 62) dX11_execute_61 rfl (z_in_of rfl) ?_
      refine zr_icmp_eq (q := 81) (q2 := 65) dX11_execute_62 (by decide) rfl (fun h62 => ?_) (fun h62 => ?_)
      · refine zp_il1 (q := 82) dX11_execute_81 rfl ?_
        refine zr_ireturn dX11_execute_82 rfl (z_fit_i _) ?_
        refine ⟨rfl, rfl, y1.of hwf (fun z a b => z2 z (by omega) (by omega)), y2.of (fun z a b => z2 z (by omega) (by omega)), ?_, y4.of (fun z a b => z2 z (by omega) (by omega)), y5.of (fun z a b => z2 z (by omega) (by omega)), ⟨by rw [z2 513 (by omega) (by omega)]; exact y6.1.trans x1.2.1, by rw [z2 513 (by omega) (by omega)]; exact y6.2.trans x1.2.2⟩, z1, fun z a b d e f => ((z2 z (by omega) (by omega)).trans (y7 z a b d e (by omega) (by omega))).trans (x1.1 z (by omega) (by omega))⟩
        unfold zRm at y3 ⊢
        rw [en, x1.1 134 (by decide) (by decide)] at y3
        rw [z2 134 (by omega) (by omega)]
        exact ⟨y3.1.of hG (fun z a b => z2 z (by omega) (by omega)), y3.2⟩
      · exact absurd rfl h62
    · exact absurd h35 (by omega)
  · exact absurd h10 (by omega)
theorem s_X11_execute_x (Hw : zHw M) (Hb : zHa M 46) (Hh : zHh M) (R : zAR M 2 G) (hG : zWF G) (Hc : zHc M) (Hp : zHp M) (H : zRh M L) (hn : n = L.length) (hE : zEd (zCh9 L) n) {N : Nat} (hN : zLast (zCh9 L) N) (hT : zTok (zCh9 L) n N) {k : Nat} (hk : k ≤ N) (ha : ∀ j : Nat, j < k → zXo9 (zGk G (zCh9 L) j) (zCh9 L) (zPs9 (zCh9 L) j)) (hb : ¬ zXo9 (zGk G (zCh9 L) k) (zCh9 L) (zPs9 (zCh9 L) k)) :
    z_Call mX11_execute zF [(1, 1)] M (fun r S' M' => r = (8, 2) ∧ S' = zF ∧ zEb M M' G k) := by
  have hNr := zPs9_rg hE N hN.1
  have hE1 := hE.2.1
  refine z_enter (k := 2) rfl rfl rfl ?_
  refine zp_al0 (q := 1) dX11_execute_0 rfl ?_
  refine zf_getG (v := 513) 9 (k1) (Hw.re) rfl fdX11_61 (q := 4) dX11_execute_1 rfl rfl ?_
  refine zf_callV0 (k513) (s_X7_countCommands H hn hE hN hT) mtX7_countCommands wiX7_countCommands weX7_countCommands wlX11_293 (q := 7) dX11_execute_4 rfl rfl rfl rfl rfl rfl rfl (fun r S9 M9 h8 hP => ?_) (fun k S9 M9 hP => (z_no hP.1 rfl).elim)
  obtain ⟨rfl, rfl, x1, x2⟩ := hP
  have Hw1 : zHw M9 := Hw.of (x1.1 1 (by decide) (by decide))
  have H1 := x1.h H
  have sA := s_X11_carryOutAll_x Hw1 (Hb.of (fun z a b => x1.1 z (by omega) (by omega))) (Hh.of (fun z a b => x1.1 z (by omega) (by omega))) (R.of hG (fun z a b => x1.1 z (by omega) (by omega))) hG (Hc.of (fun z a b => x1.1 z (by omega) (by omega))) (Hp.of (fun z a b => x1.1 z (by omega) (by omega))) H1 hE hN (hT.co hN) hk ha hb
  have ex : ∃ M1, M1 = M9 := ⟨M9, rfl⟩
  obtain ⟨M1, e1⟩ := ex
  rw [← e1] at x1 x2 Hw1 H1 sA ⊢
  clear e1 M9
  refine zp_is1 (q := 8) dX11_execute_7 rfl rfl rfl ?_
  refine zp_il1 (q := 9) dX11_execute_8 rfl ?_
  refine zr_iconst (q := 10) dX11_execute_9 rfl (z_in_of rfl) ?_
  refine zr_icmp_ne (q := 17) (q2 := 13) dX11_execute_10 (by decide) rfl (fun h10 => ?_) (fun h10 => ?_)
  · refine zp_al0 (q := 18) dX11_execute_17 rfl ?_
    refine zp_il1 (q := 19) dX11_execute_18 rfl ?_
    refine zf_callV1 (k1) (sA) mtX11_carryOutAll wiX11_carryOutAll weX11_carryOutAll wlX11_296 (q := 22) dX11_execute_19 rfl rfl rfl rfl rfl rfl rfl (fun r S9 M9 h8 hP => ?_) (fun k S9 M9 hP => (z_no hP.1 rfl).elim)
    obtain ⟨rfl, rfl, y1⟩ := hP
    unfold zXb at y1
    obtain ⟨y1, y2, y4, y5, y6, y7⟩ := y1
    have Hw2 : zHw M9 := Hw1.of (y7 1 (by omega) (by omega) (by omega) (by omega))
    have t0 : M9 514 0 = 515 := by rw [y7 514 (by omega) (by omega) (by omega) (by omega)]; exact H1.2.2.1.1
    refine zp_is2 (q := 23) dX11_execute_22 rfl rfl rfl ?_
    refine zp_al0 (q := 24) dX11_execute_23 rfl ?_
    refine zf_getG (v := 513) 9 (k1) (Hw2.re) rfl fdX11_61 (q := 27) dX11_execute_24 rfl rfl ?_
    refine zf_getG (v := 514) 0 (k513) (y6.1.trans H1.1) rfl fdX11_285 (q := 30) dX11_execute_27 rfl rfl ?_
    refine zf_callV0 (k514) (s_X9_clear (Or.inr rfl) t0) mtX9_clear wiX9_clear weX9_clear wlX11_246 (q := 33) dX11_execute_30 rfl rfl rfl rfl rfl rfl rfl (fun r S9 M9 h8 hP => ?_) (fun k S9 M9 hP => (z_no hP.1 rfl).elim)
    obtain ⟨rfl, rfl, z1, z2⟩ := hP
    refine zp_il1 (q := 34) dX11_execute_33 rfl ?_
    refine zr_iconst (q := 35) dX11_execute_34 rfl (z_in_of rfl) ?_
    refine zr_icmp_ne (q := 60) (q2 := 38) dX11_execute_35 (by decide) rfl (fun h35 => ?_) (fun h35 => ?_)
    · refine zp_il2 (q := 61) dX11_execute_60 rfl ?_
      refine zr_iconst (q := 62) dX11_execute_61 rfl (z_in_of rfl) ?_
      refine zr_icmp_eq (q := 81) (q2 := 65) dX11_execute_62 (by decide) rfl (fun h62 => ?_) (fun h62 => ?_)
      · exact absurd h62 (by omega)
      · refine zp_al0 (q := 66) dX11_execute_65 rfl ?_
        refine zp_il2 (q := 67) dX11_execute_66 rfl ?_
        refine zf_putG 11 (k1) rfl fpX11_69 (q := 70) dX11_execute_67 rfl rfl (by decide) (z_fit_i _) ?_
        refine zr_throwSW (i := 19) th_2 rfl (by decide) rfl rfl dX11_execute_70 dX11_execute_73 dX11_execute_74 dX11_execute_77 dX11_execute_80 (by decide) rfl (by decide) (by decide) (by decide) ?_
        exact ⟨rfl, rfl, y1.of hG (fun z a b => (z_up_ne (by omega)).trans (z2 z (by omega) (by omega))), y2.of (fun z a b => (z_up_ne (by omega)).trans (z2 z (by omega) (by omega))), y4.of (fun z a b => (z_up_ne (by omega)).trans (z2 z (by omega) (by omega))), y5.of (fun z a b => (z_up_ne (by omega)).trans (z2 z (by omega) (by omega))), ⟨by rw [z_up_ne (by decide), z2 513 (by omega) (by omega)]; exact y6.1.trans x1.2.1, by rw [z_up_ne (by decide), z2 513 (by omega) (by omega)]; exact y6.2.trans x1.2.2⟩, z1.of (z_up_ne (by decide)) (z_up_ne (by decide)), ⟨z_up_eq, fun j hj => by rw [z_up_sl hj, z2 1 (by omega) (by omega), y7 1 (by omega) (by omega) (by omega) (by omega), x1.1 1 (by omega) (by omega)]⟩, fun z a b d => (((z_up_ne (by omega)).trans (z2 z (by omega) (by omega))).trans (y7 z (by omega) b (by omega) (by omega))).trans (x1.1 z (by omega) (by omega))⟩
    · exact absurd h35 (by omega)
  · exact absurd h10 (by omega)
theorem s_X11_execute_y (Hw : zHw M) (H : zRh M L) (hn : n = L.length) (hE : zEd (zCh9 L) n) {N : Nat} (hN : zLast (zCh9 L) N) (hT : ¬ zTok (zCh9 L) n N) :
    z_Call mX11_execute zF [(1, 1)] M (fun r S' M' => r = (8, 1) ∧ S' = zF ∧ zEc M M' (zCe (zCh9 L) (zPs9 (zCh9 L) N))) := by
  refine z_enter (k := 2) rfl rfl rfl ?_
  refine zp_al0 (q := 1) dX11_execute_0 rfl ?_
  refine zf_getG (v := 513) 9 (k1) (Hw.re) rfl fdX11_61 (q := 4) dX11_execute_1 rfl rfl ?_
  refine zf_callV0 (k513) (s_X7_countCommands_x H hn hE hN hT) mtX7_countCommands wiX7_countCommands weX7_countCommands wlX11_293 (q := 7) dX11_execute_4 rfl rfl rfl rfl rfl rfl rfl (fun r S9 M9 h8 hP => ?_) (fun k S9 M9 hP => (z_no hP.1 rfl).elim)
  obtain ⟨rfl, rfl, x1, x2⟩ := hP
  have Hw1 : zHw M9 := Hw.of (x1.1 1 (by decide) (by decide))
  have H1 := x1.h H
  have ex : ∃ M1, M1 = M9 := ⟨M9, rfl⟩
  obtain ⟨M1, e1⟩ := ex
  rw [← e1] at x1 x2 Hw1 H1 ⊢
  clear e1 M9
  refine zp_is1 (q := 8) dX11_execute_7 rfl rfl rfl ?_
  refine zp_il1 (q := 9) dX11_execute_8 rfl ?_
  refine zr_iconst (q := 10) dX11_execute_9 rfl (z_in_of rfl) ?_
  refine zr_icmp_ne (q := 17) (q2 := 13) dX11_execute_10 (by decide) rfl (fun h10 => ?_) (fun h10 => ?_)
  · exact absurd rfl h10
  · refine zr_iconst (q := 14) dX11_execute_13 rfl (z_in_of rfl) ?_
    refine zr_goto (q := 22) dX11_execute_14 (by decide) ?_
    refine zp_is2 (q := 23) dX11_execute_22 rfl rfl rfl ?_
    refine zp_al0 (q := 24) dX11_execute_23 rfl ?_
    refine zf_getG (v := 513) 9 (k1) (Hw1.re) rfl fdX11_61 (q := 27) dX11_execute_24 rfl rfl ?_
    refine zf_getG (v := 514) 0 (k513) (H1.1) rfl fdX11_285 (q := 30) dX11_execute_27 rfl rfl ?_
    refine zf_callV0 (k514) (s_X9_clear (Or.inr rfl) H1.2.2.1.1) mtX9_clear wiX9_clear weX9_clear wlX11_246 (q := 33) dX11_execute_30 rfl rfl rfl rfl rfl rfl rfl (fun r S9 M9 h8 hP => ?_) (fun k S9 M9 hP => (z_no hP.1 rfl).elim)
    obtain ⟨rfl, rfl, z1, z2⟩ := hP
    have Hw2 : zHw M9 := Hw1.of (z2 1 (by omega) (by omega))
    refine zp_il1 (q := 34) dX11_execute_33 rfl ?_
    refine zr_iconst (q := 35) dX11_execute_34 rfl (z_in_of rfl) ?_
    refine zr_icmp_ne (q := 60) (q2 := 38) dX11_execute_35 (by decide) rfl (fun h35 => ?_) (fun h35 => ?_)
    · exact absurd rfl h35
    · refine zp_al0 (q := 39) dX11_execute_38 rfl ?_
      refine zp_al0 (q := 40) dX11_execute_39 rfl ?_
      refine zf_getG (v := 513) 9 (k1) (Hw2.re) rfl fdX11_61 (q := 43) dX11_execute_40 rfl rfl ?_
      refine zf_getG (v := zCe (zCh9 L) (zPs9 (zCh9 L) N)) 1 (k513) (by rw [z2 513 (by omega) (by omega)]; exact x2) rfl fdX11_299 (q := 46) dX11_execute_43 rfl rfl ?_
      refine zf_putG 10 (k1) rfl fpX11_65 (q := 49) dX11_execute_46 rfl rfl (by decide) (z_fit_i _) ?_
      refine zr_throwSW (i := 18) th_1 rfl (by decide) rfl rfl dX11_execute_49 dX11_execute_52 dX11_execute_53 dX11_execute_56 dX11_execute_59 (by decide) rfl (by decide) (by decide) (by decide) ?_
      exact ⟨rfl, rfl, ⟨by rw [z_up_ne (by decide), z2 513 (by omega) (by omega)]; exact x1.2.1, by rw [z_up_ne (by decide), z2 513 (by omega) (by omega)]; exact x1.2.2⟩, z1.of (z_up_ne (by decide)) (z_up_ne (by decide)), ⟨z_up_eq, fun j hj => by rw [z_up_sl hj, z2 1 (by omega) (by omega), x1.1 1 (by omega) (by omega)]⟩, fun z a b => ((z_up_ne (by omega)).trans (z2 z (by omega) (by omega))).trans (x1.1 z (by omega) (by omega))⟩
end ZEX
