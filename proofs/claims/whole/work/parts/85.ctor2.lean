/-! dep: 80 81 82 83 84 -/
/-! ===== constructors of the assembly, the count, the history ===== -/
def zNil : Int → Int := fun _ => 0
theorem zNil_w : zWF zNil := by
  unfold zWF zNil
  refine ⟨by omega, by omega, by omega, ⟨by omega, rfl⟩, fun w w0 w1 => by omega, fun i i0 i1 => by omega⟩
theorem z_gen {Y : zY} {S : zS} {pc : Nat} {ls st : List zV} {M : zM} {bc bs : Nat} {Q : zV → zS → zM → Prop} (kk : ∀ M1, M1 = M → z_Ex Y S pc ls st M1 bc bs Q) : z_Ex Y S pc ls st M bc bs Q := kk M rfl
theorem z_shp {Y : zY} {S : zS} {pc : Nat} {ls st : List zV} {M : zM} {bc bs n n' : Nat} {K : Int → Nat × Nat} {Q : zV → zS → zM → Prop} (h : zShp S n K) (e : n = n') (kk : zShp S n' K → z_Ex Y S pc ls st M bc bs Q) : z_Ex Y S pc ls st M bc bs Q := kk (e ▸ h)
section ZCT3
variable {S : zS} {M : zM} {a : Int} {n : Nat}
theorem mAk_s {i : Nat} {z : Int} (h3 : z ≠ a + 3) (h4 : z ≠ a + 4 + 2 * i) (h5 : z ≠ a + 4 + 2 * i + 1) : mAk M a (i + 1) z = mAk M a i z := by
  show z_up (z_up (z_zero (z_zero (mAk M a i) (a + 4 + 2 * i)) (a + 4 + 2 * i + 1)) (a + 4 + 2 * i) 2 _) (a + 3) i _ z = _
  rw [z_up_ne h3, z_up_ne h4, z_zero_ne h5, z_zero_ne h4]
theorem mAk_f : ∀ i : Nat, (∀ z, z < a → mAk M a i z = M z) ∧ (mAk M a i a 0 = 0 ∧ mAk M a i a 1 = a + 1 ∧ mAk M a i a 2 = a + 2 ∧ mAk M a i a 3 = 0 ∧ mAk M a i a 4 = 0 ∧ mAk M a i a 5 = a + 3 ∧ mAk M a i a 6 = 0) ∧ (∀ j, mAk M a i (a + 1) j = 0) ∧ (∀ j : Int, 0 ≤ j → j < (i : Int) → mAk M a i (a + 3) j = a + 4 + 2 * j) ∧ (∀ b, a + 4 ≤ b → b < a + 4 + 2 * i → (b - a) % 2 = 0 → mAk M a i b 2 = b + 1) := by
  intro i
  induction i with
  | zero =>
    refine ⟨fun z hz => ?_, ?_, fun j => ?_, fun j j0 j1 => by omega, fun b b0 b1 => by omega⟩
    · show mA0 M a z = M z
      unfold mA0
      rw [z_up_ne (by omega), z_up_ne (by omega), z_zero_ne (by omega), z_up_ne (by omega), z_up_ne (by omega), z_up_ne (by omega), z_zero_ne (by omega), z_up_ne (by omega), z_zero_ne (by omega), z_up_ne (by omega)]
    · show mA0 M a a 0 = 0 ∧ mA0 M a a 1 = a + 1 ∧ mA0 M a a 2 = a + 2 ∧ mA0 M a a 3 = 0 ∧ mA0 M a a 4 = 0 ∧ mA0 M a a 5 = a + 3 ∧ mA0 M a a 6 = 0
      unfold mA0 z_up z_zero
      have e1 : ¬ a = a + 1 := by omega
      have e2 : ¬ a = a + 2 := by omega
      have e3 : ¬ a = a + 3 := by omega
      simp [e1, e2, e3]
    · show mA0 M a (a + 1) j = 0
      unfold mA0
      rw [z_up_ne (by omega), z_up_ne (by omega), z_zero_ne (by omega), z_up_ne (by omega), z_up_ne (by omega), z_up_ne (by omega), z_zero_ne (by omega), z_up_ne (by omega), z_zero_eq]
  | succ i ih =>
    obtain ⟨i1, i2, i3, i4, i5⟩ := ih
    refine ⟨fun z hz => (mAk_s (by omega) (by omega) (by omega)).trans (i1 z hz), ?_, fun j => by rw [mAk_s (by omega) (by omega) (by omega)]; exact i3 j, fun j j0 j1 => ?_, fun b b0 b1 b2 => ?_⟩
    · rw [mAk_s (by omega) (by omega) (by omega)]; exact i2
    · show z_up (z_up (z_zero (z_zero (mAk M a i) (a + 4 + 2 * i)) (a + 4 + 2 * i + 1)) (a + 4 + 2 * i) 2 _) (a + 3) i (a + 4 + 2 * i) (a + 3) j = _
      by_cases e : j = i
      · rw [e, z_up_eq]
      · rw [z_up_sl e, z_up_ne (by omega), z_zero_ne (by omega), z_zero_ne (by omega)]
        exact i4 j j0 (by omega)
    · by_cases e : b = a + 4 + 2 * i
      · show z_up (z_up (z_zero (z_zero (mAk M a i) (a + 4 + 2 * i)) (a + 4 + 2 * i + 1)) (a + 4 + 2 * i) 2 (a + 4 + 2 * i + 1)) (a + 3) i (a + 4 + 2 * i) b 2 = _
        rw [z_up_ne (by omega), e, z_up_eq]
      · rw [mAk_s (by omega) e (by omega)]
        exact i5 b b0 (by omega) b2
theorem mA_ar : zAR (mA M a) a zNil ∧ ∀ z, z < a → mA M a z = M z := by
  obtain ⟨h1, ⟨f0, f1, f2, f3, f4, f5, f6⟩, h3, h4, h5⟩ := mAk_f (M := M) (a := a) 20
  refine ⟨⟨⟨f1, f2, f5, fun i i0 i1 => ?_, fun i j i0 i1 j0 j1 e => ?_, fun b hb => ?_, fun w w0 w1 => Or.inl (h3 w)⟩, f0, f3, f4, f6, fun w w0 w1 => ?_, ?_, fun i i0 i1 => ?_⟩, h1⟩
  · show zBl a (mAk M a 20 (a + 3) i)
    rw [h4 i i0 (by omega)]
    unfold zBl
    omega
  · have e1 : mAk M a 20 (a + 3) i = mAk M a 20 (a + 3) j := e
    rw [h4 i i0 (by omega), h4 j j0 (by omega)] at e1
    omega
  · exact h5 b hb.1 (by have := hb.2.1; omega) hb.2.2
  · have : zNil 0 = 0 := rfl
    omega
  · unfold zSeat
    have e0 : zNil 0 = 0 := rfl
    have e3 : zNil 3 = 0 := rfl
    refine ⟨fun w w0 w1 => by omega, fun w w0 w1 => by omega⟩
  · have : zNil 1 = 0 := rfl
    omega
theorem c_X1_init_l (ha : zAs a) (hn : n < 900) (hz : a = n) {bc bs : Nat} : ∀ (m i : Nat) (S' : zS), i ≤ 20 → 20 - i < m → zShp S' (n + 3 + 2 * i) zK → 2 * (20 - i) ≤ bc → 8 * (20 - i) ≤ bs →
    z_Ex mX1_init S' 51 [(1, a), (0, (i : Int))] [] (mAk M a i) bc bs (fun r S' M' => r = (9, 0) ∧ zShp S' (n + 43) zK ∧ M' = mA M a) := by
  intro m
  induction m generalizing bc bs with
  | zero => intro i S' a1 a2; omega
  | succ m ih =>
    intro i S' a1 a2 hS b1 b2
    have k0 := zAs_0 ha
    have k3 := zAs_3 ha
    refine zp_il1 (q := 52) dX1_init_51 rfl ?_
    refine zr_bipush (q := 54) dX1_init_52 rfl (z_in_of rfl) (by decide +kernel) ?_
    refine zr_icmp_ge (q := 76) (q2 := 57) dX1_init_54 (by decide) rfl (fun h54 => ?_) (fun h54 => ?_)
    · have ei : i = 20 := by omega
      subst ei
      refine zr_return dX1_init_76 rfl ?_
      exact ⟨rfl, hS, rfl⟩
    · have kb := zAs_k ha (4 + 2 * i) (by omega) (by omega)
      have kw := zAs_k ha (5 + 2 * i) (by omega) (by omega)
      have ea : a + (4 + 2 * (i : Int)) = a + 4 + 2 * i := by omega
      have ew : a + (5 + 2 * (i : Int)) = a + 4 + 2 * i + 1 := by omega
      have zb : zKa (4 + 2 * (i : Int)) = (1, 0) := by
        unfold zKa
        rw [if_neg (by omega), if_neg (by omega), if_neg (by omega), if_neg (by omega), if_pos (by omega)]
      have zw : zKa (5 + 2 * (i : Int)) = (10, 5) := by
        unfold zKa
        rw [if_neg (by omega), if_neg (by omega), if_neg (by omega), if_neg (by omega), if_neg (by omega)]
      rw [ea, zb] at kb
      rw [ew, zw] at kw
      refine zp_al0 (q := 58) dX1_init_57 rfl ?_
      refine zr_getf (z := a) (k := 5) fdX1_31 dX1_init_58 rfl (q := 61) rfl k0.1 (by rw [hS.2.1]; omega) (by rw [hS.2.2 _ k0.1 (by omega)]; exact k0.2.2) ?_
      rw [show ((5 : Nat) : Int) = 5 from rfl, mAk_5]
      refine zp_il1 (q := 62) dX1_init_61 rfl ?_
      refine zc_new (z := a + 4 + 2 * i) (q := 65) hS (by omega) kb.2.2 (by omega) nwX1_29 dX1_init_62 rfl rfl (by omega) (by omega) (fun S1 hS1 => ?_)
      refine zr_dup (q := 66) dX1_init_65 rfl (Or.inr rfl) ?_
      refine zr_ctorN (host := "WindElection") (as := []) (c_X2_init (z := a + 4 + 2 * i) hS1 (by omega) (by omega) (by omega) kb.2.2 kw.2.2) (fun k S9 M9 hP => (z_no hP.1 rfl).elim) mtX2_init rfl rfl wiX2_init wnX1_38 (q := 69) dX1_init_66 rfl rfl ⟨Nat.le_of_ble_eq_true rfl, Nat.le_of_ble_eq_true rfl, rfl⟩ (by omega) rfl (Nat.le_of_ble_eq_true rfl) (by show 1 ≤ bc - 1; omega) (by show 5 ≤ bs - 3; omega) (fun r S2 M9 h8 hP => ?_)
      obtain ⟨rfl, hS2, h9⟩ := hP
      subst M9
      refine zr_aast (z := a + 3) (i := i) (x := a + 4 + 2 * i) (kd := 16) (n := 20) (c := 1) (by decide) dX1_init_69 (q := 70) rfl k3.1 (by rw [hS2.2.1]; omega) (by rw [hS2.2.2 _ k3.1 (by omega)]; exact k3.2.2) (by omega) (by omega) (by omega) (by rw [hS2.2.1]; omega) (by rw [hS2.2.2 _ (by omega) (by omega), kb.2.2]) ?_
      refine zp_inc1 (q := 73) dX1_init_70 rfl rfl rfl (fun hA => by unfold z_in at hA ⊢; omega) ?_
      refine zr_goto (q := 51) dX1_init_73 (by decide) ?_
      rw [show (i : Int) + 1 = ((i + 1 : Nat) : Int) by omega]
      refine z_shp hS2 (show n + 3 + 2 * i + 1 + 1 = n + 3 + 2 * (i + 1) by omega) (fun hS3 => ?_)
      exact ih (i + 1) S2 (by omega) (by omega) hS3 (by show 2 * (20 - (i + 1)) ≤ bc - 1 - 1; omega) (by show 8 * (20 - (i + 1)) ≤ bs - 3 - 5; omega)
theorem c_X1_init (ha : zAs a) (hS : zShp S n zK) (hz : a = n) (hn : n < 900) : z_Call mX1_init S [(1, a)] M (fun r S' M' => r = (9, 0) ∧ zShp S' (n + 43) zK ∧ zAR M' a zNil ∧ ∀ z, z < a → M' z = M z) := by
  have k0 := zAs_0 ha
  have k1 := zAs_1 ha
  have k2 := zAs_2 ha
  have k3 := zAs_3 ha
  have h0 := k0.1
  refine z_call_mono (Y := mX1_init) (P := fun r S' M' => r = (9, 0) ∧ zShp S' (n + 43) zK ∧ M' = mA M a) ?_ (fun r S' M' hp => ⟨hp.1, hp.2.1, by rw [hp.2.2]; exact mA_ar.1, by rw [hp.2.2]; exact mA_ar.2⟩)
  refine z_enter (k := 1) rfl rfl rfl ?_
  refine zp_al0 (q := 1) dX1_init_0 rfl ?_
  refine zr_objInit (q := 4) dX1_init_1 rfl (by omega) (z_all_in (i := 90) (by decide +kernel) (by decide +kernel)) (z_all_in (i := 83) (by decide +kernel) (by decide +kernel)) (z_all_in (i := 84) (by decide +kernel) (by decide +kernel)) (Nat.le_of_ble_eq_true rfl) rfl (Nat.le_of_ble_eq_true rfl) ?_
  refine zp_al0 (q := 5) dX1_init_4 rfl ?_
  refine zr_iconst (q := 6) dX1_init_5 rfl (z_in_of rfl) ?_
  refine zr_putf (z := a) (k := 0) fpX1_9 (q := 9) dX1_init_6 rfl rfl (by omega) (by rw [hS.2.1]; omega) (by rw [hS.2.2 _ (by omega) (by omega), k0.2.2]) (by decide) (z_fit_i _) ?_
  refine zp_al0 (q := 10) dX1_init_9 rfl ?_
  refine zr_bipush (q := 12) dX1_init_10 rfl (z_in_of rfl) (by decide +kernel) ?_
  refine zc_newa (z := a + 1) (q := 14) hS (by omega) (k1.2.2) (by omega) (ty := .boolean) rfl (by decide) (z_all_in (i := 116) (by decide +kernel) (by decide +kernel)) dX1_init_12 rfl rfl (by decide) (Nat.le_of_ble_eq_true rfl) (Nat.le_of_ble_eq_true rfl) (fun S1 hS1 => ?_)
  refine zr_putF (z := a) (k := 1) ffX1_15 (q := 17) dX1_init_14 rfl rfl rfl (by omega) (by rw [hS1.2.1]; omega) (by rw [hS1.2.2 _ (by omega) (by omega), k0.2.2]) (by decide) (z_fit_a _ _) ?_
  refine zp_al0 (q := 18) dX1_init_17 rfl ?_
  refine zr_bipush (q := 20) dX1_init_18 rfl (z_in_of rfl) (by decide +kernel) ?_
  refine zc_newa (z := a + 2) (q := 22) hS1 (by omega) (k2.2.2) (by omega) (ty := .int) rfl (by decide) (z_all_in (i := 117) (by decide +kernel) (by decide +kernel)) dX1_init_20 rfl rfl (by decide) (Nat.le_of_ble_eq_true rfl) (Nat.le_of_ble_eq_true rfl) (fun S2 hS2 => ?_)
  refine zr_putF (z := a) (k := 2) ffX1_19 (q := 25) dX1_init_22 rfl rfl rfl (by omega) (by rw [hS2.2.1]; omega) (by rw [hS2.2.2 _ (by omega) (by omega), k0.2.2]) (by decide) (z_fit_a _ _) ?_
  refine zp_al0 (q := 26) dX1_init_25 rfl ?_
  refine zr_iconst (q := 27) dX1_init_26 rfl (z_in_of rfl) ?_
  refine zr_putf (z := a) (k := 3) fpX1_23 (q := 30) dX1_init_27 rfl rfl (by omega) (by rw [hS2.2.1]; omega) (by rw [hS2.2.2 _ (by omega) (by omega), k0.2.2]) (by decide) (z_fit_i _) ?_
  refine zp_al0 (q := 31) dX1_init_30 rfl ?_
  refine zr_iconst (q := 32) dX1_init_31 rfl (z_in_of rfl) ?_
  refine zr_putf (z := a) (k := 4) fpX1_26 (q := 35) dX1_init_32 rfl rfl (by omega) (by rw [hS2.2.1]; omega) (by rw [hS2.2.2 _ (by omega) (by omega), k0.2.2]) (by decide) (z_fit_i _) ?_
  refine zp_al0 (q := 36) dX1_init_35 rfl ?_
  refine zr_bipush (q := 38) dX1_init_36 rfl (z_in_of rfl) (by decide +kernel) ?_
  refine zc_newq (z := a + 3) (q := 41) (c := 1) hS2 (by omega) (k3.2.2) (by omega) (by decide) (fun r hr => by cases hr; exact z_all_in (i := 91) (by decide +kernel) (by decide +kernel)) (fun r hr => by cases hr; exact List.mem_of_getElem? (i := 92) (by decide +kernel)) dX1_init_38 rfl rfl rfl (by decide) (Nat.le_of_ble_eq_true rfl) (Nat.le_of_ble_eq_true rfl) (fun S3 hS3 => ?_)
  refine zr_putF (z := a) (k := 5) ffX1_31 (q := 44) dX1_init_41 rfl rfl rfl (by omega) (by rw [hS3.2.1]; omega) (by rw [hS3.2.2 _ (by omega) (by omega), k0.2.2]) (by decide) (z_fit_a _ _) ?_
  refine zp_al0 (q := 45) dX1_init_44 rfl ?_
  refine zr_iconst (q := 46) dX1_init_45 rfl (z_in_of rfl) ?_
  refine zr_putf (z := a) (k := 6) fpX1_35 (q := 49) dX1_init_46 rfl rfl (by omega) (by rw [hS3.2.1]; omega) (by rw [hS3.2.2 _ (by omega) (by omega), k0.2.2]) (by decide) (z_fit_i _) ?_
  refine zr_iconst (q := 50) dX1_init_49 rfl (z_in_of rfl) ?_
  refine zp_is1 (q := 51) dX1_init_50 rfl rfl rfl ?_
  exact c_X1_init_l ha hn hz 21 0 _ (by omega) (by omega) hS3 (by decide) (by decide)
end ZCT3
section ZCT4
variable {S : zS} {M : zM}
/-- a count's rounds, so far as they are made -/
def zC8 (M0 M : zM) (i : Nat) : Prop := M 488 0 = 489 ∧ (∀ k, 0 ≤ k → k < (i : Int) → M 489 k = 490 + 2 * k ∧ M (490 + 2 * k) 0 = 490 + 2 * k + 1) ∧ ∀ z, z < 488 → M z = M0 z
theorem zRo_k {k : Int} (h0 : 0 ≤ k) (h1 : k < 8) : zRo (490 + 2 * k) := Or.inl ⟨by omega, by omega, by omega⟩
theorem c_X3_init_l {M0 : zM} {bc bs : Nat} : ∀ (m i : Nat) (S' : zS) (M : zM), i ≤ 8 → 8 - i < m → zShp S' (489 + 2 * i) zK → zC8 M0 M i → 2 * (8 - i) ≤ bc → 13 * (8 - i) ≤ bs →
    z_Ex mX3_init S' 30 [(1, 488), (0, (i : Int))] [] M bc bs (fun r S' M' => r = (9, 0) ∧ zShp S' 505 zK ∧ zHc M' ∧ ∀ z, z < 488 → M' z = M0 z) := by
  intro m
  induction m generalizing bc bs with
  | zero => intro i S' M a1 a2; omega
  | succ m ih =>
    intro i S' M a1 a2 hS hI b1 b2
    obtain ⟨i1, i2, i3⟩ := hI
    refine zp_il1 (q := 31) dX3_init_30 rfl ?_
    refine zr_bipush (q := 33) dX3_init_31 rfl (z_in_of rfl) (by decide +kernel) ?_
    refine zr_icmp_ge (q := 55) (q2 := 36) dX3_init_33 (by decide) rfl (fun h33 => ?_) (fun h33 => ?_)
    · have ei : i = 8 := by omega
      subst ei
      refine zr_return dX3_init_55 rfl ?_
      exact ⟨rfl, hS, ⟨i1, fun k k0 k1 => i2 k k0 k1⟩, i3⟩
    · have hro := zRo_k (k := (i : Int)) (by omega) (by omega)
      have kr := zRo_0 hro
      have kw := zRo_1 hro
      refine zp_al0 (q := 37) dX3_init_36 rfl ?_
      refine zr_getf (z := 488) (k := 0) fdX3_11 dX3_init_37 rfl (q := 40) rfl k488.1 (by rw [hS.2.1]; omega) (by rw [hS.2.2 _ k488.1 (by omega)]; exact k488.2.2) ?_
      rw [show ((0 : Nat) : Int) = 0 from rfl, i1]
      refine zp_il1 (q := 41) dX3_init_40 rfl ?_
      refine zc_new (z := 490 + 2 * i) (q := 44) hS (by omega) (Prod.ext kr.2.2 (by unfold zK; rw [if_neg (by omega), if_neg (by omega), if_neg (by omega), if_neg (by omega), if_neg (by omega), if_neg (by omega), if_neg (by omega), if_pos (by omega), if_pos (by omega)])) (by omega) nwX3_9 dX3_init_41 rfl rfl (by omega) (by omega) (fun S1 hS1 => ?_)
      refine zr_dup (q := 45) dX3_init_44 rfl (Or.inr rfl) ?_
      refine zr_ctorN (host := "WindElection") (as := []) (c_X8_init (z := 490 + 2 * i) hS1 (by omega) (by omega) (by omega) (Prod.ext kr.2.2 (by unfold zK; rw [if_neg (by omega), if_neg (by omega), if_neg (by omega), if_neg (by omega), if_neg (by omega), if_neg (by omega), if_neg (by omega), if_pos (by omega), if_pos (by omega)])) kw.2.2) (fun k S9 M9 hP => (z_no hP.1 rfl).elim) mtX8_init rfl rfl wiX8_init wnX3_27 (q := 48) dX3_init_45 rfl rfl ⟨Nat.le_of_ble_eq_true rfl, Nat.le_of_ble_eq_true rfl, rfl⟩ (by omega) rfl (Nat.le_of_ble_eq_true rfl) (by show 1 ≤ bc - 1; omega) (by show 8 ≤ bs - 5; omega) (fun r S2 M9 h8 hP => ?_)
      obtain ⟨rfl, hS2, h9⟩ := hP
      subst M9
      refine zr_aast (z := 489) (i := i) (x := 490 + 2 * i) (kd := 17) (n := 8) (c := 6) (by decide) dX3_init_48 (q := 49) rfl k489.1 (by rw [hS2.2.1]; omega) (by rw [hS2.2.2 _ k489.1 (by omega)]; exact k489.2.2) (by omega) (by omega) (by omega) (by rw [hS2.2.1]; omega) (by rw [hS2.2.2 _ (by omega) (by omega)]; exact kr.2.2) ?_
      refine zp_inc1 (q := 52) dX3_init_49 rfl rfl rfl (fun hA => by unfold z_in at hA ⊢; omega) ?_
      refine zr_goto (q := 30) dX3_init_52 (by decide) ?_
      rw [show (i : Int) + 1 = ((i + 1 : Nat) : Int) by omega]
      refine z_shp hS2 (show 489 + 2 * i + 1 + 1 = 489 + 2 * (i + 1) by omega) (fun hS3 => ?_)
      have e9 : ∀ z, z < 489 → z_up (mR (z_zero M (490 + 2 * i)) (490 + 2 * i)) 489 i (490 + 2 * i) z = M z := fun z hz => by
        unfold mR
        rw [z_up_ne (by omega), z_up_ne (by omega), z_up_ne (by omega), z_up_ne (by omega), z_up_ne (by omega), z_up_ne (by omega), z_zero_ne (by omega), z_zero_ne (by omega)]
      refine ih (i + 1) S2 _ (by omega) (by omega) hS3 ⟨by rw [e9 488 (by omega)]; exact i1, fun k k0 k1 => ?_, fun z hz => (e9 z (by omega)).trans (i3 z hz)⟩ (by show 2 * (8 - (i + 1)) ≤ bc - 1 - 1; omega) (by show 13 * (8 - (i + 1)) ≤ bs - 5 - 8; omega)
      by_cases ek : k = i
      · subst ek
        refine ⟨z_up_eq, ?_⟩
        unfold mR
        rw [z_up_ne (by omega), z_up_sl (by decide), z_up_sl (by decide), z_up_sl (by decide), z_up_sl (by decide), z_up_eq]
      · unfold mR
        refine ⟨?_, ?_⟩
        · rw [z_up_sl ek, z_up_ne (by omega), z_up_ne (by omega), z_up_ne (by omega), z_up_ne (by omega), z_up_ne (by omega), z_zero_ne (by omega), z_zero_ne (by omega)]
          exact (i2 k k0 (by omega)).1
        · rw [z_up_ne (by omega), z_up_ne (by omega), z_up_ne (by omega), z_up_ne (by omega), z_up_ne (by omega), z_up_ne (by omega), z_zero_ne (by omega), z_zero_ne (by omega)]
          exact (i2 k k0 (by omega)).2
theorem c_X3_init (hS : zShp S 488 zK) : z_Call mX3_init S [(1, 488)] M (fun r S' M' => r = (9, 0) ∧ zShp S' 505 zK ∧ zHc M' ∧ ∀ z, z < 488 → M' z = M z) := by
  refine z_enter (k := 1) rfl rfl rfl ?_
  refine zp_al0 (q := 1) dX3_init_0 rfl ?_
  refine zr_objInit (q := 4) dX3_init_1 rfl (by omega) (z_all_in (i := 179) (by decide +kernel) (by decide +kernel)) (z_all_in (i := 83) (by decide +kernel) (by decide +kernel)) (z_all_in (i := 84) (by decide +kernel) (by decide +kernel)) (Nat.le_of_ble_eq_true rfl) rfl (Nat.le_of_ble_eq_true rfl) ?_
  refine zp_al0 (q := 5) dX3_init_4 rfl ?_
  refine zr_bipush (q := 7) dX3_init_5 rfl (z_in_of rfl) (by decide +kernel) ?_
  refine zc_newq (z := 489) (q := 10) (c := 6) hS (by omega) (k489.2.2) (by omega) (by decide) (fun r hr => by cases hr; exact z_all_in (i := 180) (by decide +kernel) (by decide +kernel)) (fun r hr => by cases hr; exact List.mem_of_getElem? (i := 181) (by decide +kernel)) dX3_init_7 rfl rfl rfl (by decide) (Nat.le_of_ble_eq_true rfl) (Nat.le_of_ble_eq_true rfl) (fun S1 hS1 => ?_)
  refine zr_putF (z := 488) (k := 0) ffX3_11 (q := 13) dX3_init_10 rfl rfl rfl (by omega) (by rw [hS1.2.1]; omega) (by rw [hS1.2.2 _ (by omega) (by omega), show zK 488 = (2, 0) by decide +kernel]) (by decide) (z_fit_a _ _) ?_
  refine zp_al0 (q := 14) dX3_init_13 rfl ?_
  refine zr_iconst (q := 15) dX3_init_14 rfl (z_in_of rfl) ?_
  refine zr_putf (z := 488) (k := 1) fpX3_17 (q := 18) dX3_init_15 rfl rfl (by omega) (by rw [hS1.2.1]; omega) (by rw [hS1.2.2 _ (by omega) (by omega), show zK 488 = (2, 0) by decide +kernel]) (by decide) (z_fit_i _) ?_
  refine zp_al0 (q := 19) dX3_init_18 rfl ?_
  refine zr_iconst (q := 20) dX3_init_19 rfl (z_in_of rfl) ?_
  refine zr_putf (z := 488) (k := 2) fpX3_21 (q := 23) dX3_init_20 rfl rfl (by omega) (by rw [hS1.2.1]; omega) (by rw [hS1.2.2 _ (by omega) (by omega), show zK 488 = (2, 0) by decide +kernel]) (by decide) (z_fit_i _) ?_
  refine zp_al0 (q := 24) dX3_init_23 rfl ?_
  refine zr_iconst (q := 25) dX3_init_24 rfl (z_in_of rfl) ?_
  refine zr_putf (z := 488) (k := 3) fpX3_24 (q := 28) dX3_init_25 rfl rfl (by omega) (by rw [hS1.2.1]; omega) (by rw [hS1.2.2 _ (by omega) (by omega), show zK 488 = (2, 0) by decide +kernel]) (by decide) (z_fit_i _) ?_
  refine zr_iconst (q := 29) dX3_init_28 rfl (z_in_of rfl) ?_
  refine zp_is1 (q := 30) dX3_init_29 rfl rfl rfl ?_
  exact c_X3_init_l 9 0 _ _ (by omega) (by omega) hS1 ⟨by rw [z_up_sl (by decide), z_up_sl (by decide), z_up_sl (by decide)]; exact z_up_eq, fun k k0 k1 => by omega, fun z hz => by rw [z_up_ne (by omega), z_up_ne (by omega), z_up_ne (by omega), z_up_ne (by omega), z_zero_ne (by omega)]⟩ (by decide) (by decide)
/-- a history's states, so far as they are made -/
def zC5 (M0 M : zM) (i : Nat) : Prop := M 134 0 = 135 ∧ M 134 1 = 0 ∧ M 134 2 = 0 ∧ (∀ k, 0 ≤ k → k < (i : Int) → M 135 k = 136 + 44 * k ∧ zHa M (136 + 44 * k)) ∧ ∀ z, z < 134 → M z = M0 z
theorem c_X5_init_l {M0 : zM} {bc bs : Nat} : ∀ (m i : Nat) (S' : zS) (M : zM), i ≤ 8 → 8 - i < m → zShp S' (135 + 44 * i) zK → zC5 M0 M i → 44 * (8 - i) ≤ bc → 203 * (8 - i) ≤ bs →
    z_Ex mX5_init S' 25 [(1, 134), (0, (i : Int))] [] M bc bs (fun r S' M' => r = (9, 0) ∧ zShp S' 487 zK ∧ zHh M' ∧ M' 134 2 = 0 ∧ ∀ z, z < 134 → M' z = M0 z) := by
  intro m
  induction m generalizing bc bs with
  | zero => intro i S' M a1 a2; omega
  | succ m ih =>
    intro i S' M a1 a2 hS hI b1 b2
    obtain ⟨i1, i1b, i1c, i2, i3⟩ := hI
    refine zp_il1 (q := 26) dX5_init_25 rfl ?_
    refine zr_bipush (q := 28) dX5_init_26 rfl (z_in_of rfl) (by decide +kernel) ?_
    refine zr_icmp_ge (q := 50) (q2 := 31) dX5_init_28 (by decide) rfl (fun h28 => ?_) (fun h28 => ?_)
    · have ei : i = 8 := by omega
      subst ei
      refine zr_return dX5_init_50 rfl ?_
      exact ⟨rfl, hS, ⟨i1, by omega, by omega, fun k k0 k1 => i2 k k0 k1⟩, i1c, i3⟩
    · have has := as136 (k := (i : Int)) (by omega) (by omega)
      have ka := zAs_0 has
      have kz : zK (136 + 44 * (i : Int)) = (0, 0) := by
        have h := (zAs_k has 0 (by omega) (by omega)).2.2
        rw [Int.add_zero] at h
        rw [h]
        rfl
      refine zp_al0 (q := 32) dX5_init_31 rfl ?_
      refine zr_getf (z := 134) (k := 0) fdX5_11 dX5_init_32 rfl (q := 35) rfl k134.1 (by rw [hS.2.1]; omega) (by rw [hS.2.2 _ k134.1 (by omega)]; exact k134.2.2) ?_
      rw [show ((0 : Nat) : Int) = 0 from rfl, i1]
      refine zp_il1 (q := 36) dX5_init_35 rfl ?_
      refine zc_new (z := 136 + 44 * i) (q := 39) hS (by omega) kz (by omega) nwX5_9 dX5_init_36 rfl rfl (by omega) (by omega) (fun S1 hS1 => ?_)
      refine zr_dup (q := 40) dX5_init_39 rfl (Or.inr rfl) ?_
      refine zr_ctor (as := []) (c_X1_init has hS1 (by omega) (by omega)) (fun k S9 M9 hP => (z_no hP.1 rfl).elim) mtX1_init rfl rfl wiX1_init wlX5_24 (q := 43) dX5_init_40 rfl rfl ⟨Nat.le_of_ble_eq_true rfl, Nat.le_of_ble_eq_true rfl, rfl⟩ (by omega) rfl (Nat.le_of_ble_eq_true rfl) (by show 43 ≤ bc - 1; omega) (by show 196 ≤ bs - 7; omega) (fun r S2 M9 h8 hP => ?_)
      obtain ⟨rfl, hS2, R9, F9⟩ := hP
      refine zr_aast (z := 135) (i := i) (x := 136 + 44 * i) (kd := 15) (n := 8) (c := 0) (by decide) dX5_init_43 (q := 44) rfl k135.1 (by rw [hS2.2.1]; omega) (by rw [hS2.2.2 _ k135.1 (by omega)]; exact k135.2.2) (by omega) (by omega) (by omega) (by rw [hS2.2.1]; omega) (by rw [hS2.2.2 _ (by omega) (by omega)]; exact ka.2.2) ?_
      refine zp_inc1 (q := 47) dX5_init_44 rfl rfl rfl (fun hA => by unfold z_in at hA ⊢; omega) ?_
      refine zr_goto (q := 25) dX5_init_47 (by decide) ?_
      rw [show (i : Int) + 1 = ((i + 1 : Nat) : Int) by omega]
      refine z_shp hS2 (show 135 + 44 * i + 1 + 43 = 135 + 44 * (i + 1) by omega) (fun hS3 => ?_)
      have e9 : ∀ z, z < 136 + 44 * (i : Int) → z ≠ 135 → z_up M9 135 i (136 + 44 * i) z = M z := fun z hz h5 => by
        rw [z_up_ne h5, F9 z hz, z_zero_ne (by omega)]
      refine ih (i + 1) S2 _ (by omega) (by omega) hS3 ⟨by rw [e9 134 (by omega) (by decide)]; exact i1, by rw [e9 134 (by omega) (by decide)]; exact i1b, by rw [e9 134 (by omega) (by decide)]; exact i1c, fun k k0 k1 => ?_, fun z hz => (e9 z (by omega) (by omega)).trans (i3 z hz)⟩ (by show 44 * (8 - (i + 1)) ≤ bc - 1 - 43; omega) (by show 203 * (8 - (i + 1)) ≤ bs - 7 - 196; omega)
      by_cases ek : k = i
      · subst ek
        exact ⟨z_up_eq, R9.h.of (fun z z0 z1 => z_up_ne (by omega))⟩
      · refine ⟨?_, (i2 k k0 (by omega)).2.of (fun z z0 z1 => e9 z (by omega) (by omega))⟩
        rw [z_up_sl ek, F9 135 (by omega), z_zero_ne (by omega)]
        exact (i2 k k0 (by omega)).1
theorem c_X5_init (hS : zShp S 134 zK) : z_Call mX5_init S [(1, 134)] M (fun r S' M' => r = (9, 0) ∧ zShp S' 487 zK ∧ zHh M' ∧ M' 134 2 = 0 ∧ ∀ z, z < 134 → M' z = M z) := by
  refine z_enter (k := 1) rfl rfl rfl ?_
  refine zp_al0 (q := 1) dX5_init_0 rfl ?_
  refine zr_objInit (q := 4) dX5_init_1 rfl (by omega) (z_all_in (i := 159) (by decide +kernel) (by decide +kernel)) (z_all_in (i := 83) (by decide +kernel) (by decide +kernel)) (z_all_in (i := 84) (by decide +kernel) (by decide +kernel)) (Nat.le_of_ble_eq_true rfl) rfl (Nat.le_of_ble_eq_true rfl) ?_
  refine zp_al0 (q := 5) dX5_init_4 rfl ?_
  refine zr_bipush (q := 7) dX5_init_5 rfl (z_in_of rfl) (by decide +kernel) ?_
  refine zc_newq (z := 135) (q := 10) (c := 0) hS (by omega) (k135.2.2) (by omega) (by decide) (fun r hr => by cases hr; exact z_all_in (i := 160) (by decide +kernel) (by decide +kernel)) (fun r hr => by cases hr; exact List.mem_of_getElem? (i := 161) (by decide +kernel)) dX5_init_7 rfl rfl rfl (by decide) (Nat.le_of_ble_eq_true rfl) (Nat.le_of_ble_eq_true rfl) (fun S1 hS1 => ?_)
  refine zr_putF (z := 134) (k := 0) ffX5_11 (q := 13) dX5_init_10 rfl rfl rfl (by omega) (by rw [hS1.2.1]; omega) (by rw [hS1.2.2 _ (by omega) (by omega), show zK 134 = (3, 0) by decide +kernel]) (by decide) (z_fit_a _ _) ?_
  refine zp_al0 (q := 14) dX5_init_13 rfl ?_
  refine zr_iconst (q := 15) dX5_init_14 rfl (z_in_of rfl) ?_
  refine zr_putf (z := 134) (k := 1) fpX5_17 (q := 18) dX5_init_15 rfl rfl (by omega) (by rw [hS1.2.1]; omega) (by rw [hS1.2.2 _ (by omega) (by omega), show zK 134 = (3, 0) by decide +kernel]) (by decide) (z_fit_i _) ?_
  refine zp_al0 (q := 19) dX5_init_18 rfl ?_
  refine zr_iconst (q := 20) dX5_init_19 rfl (z_in_of rfl) ?_
  refine zr_putf (z := 134) (k := 2) fpX5_21 (q := 23) dX5_init_20 rfl rfl (by omega) (by rw [hS1.2.1]; omega) (by rw [hS1.2.2 _ (by omega) (by omega), show zK 134 = (3, 0) by decide +kernel]) (by decide) (z_fit_i _) ?_
  refine zr_iconst (q := 24) dX5_init_23 rfl (z_in_of rfl) ?_
  refine zp_is1 (q := 25) dX5_init_24 rfl rfl rfl ?_
  exact c_X5_init_l 9 0 _ _ (by omega) (by omega) hS1 ⟨by rw [z_up_sl (by decide), z_up_sl (by decide)]; exact z_up_eq, by rw [z_up_sl (by decide)]; exact z_up_eq, z_up_eq, fun k k0 k1 => by omega, fun z hz => by rw [z_up_ne (by omega), z_up_ne (by omega), z_up_ne (by omega), z_zero_ne (by omega)]⟩ (by decide) (by decide)
end ZCT4
