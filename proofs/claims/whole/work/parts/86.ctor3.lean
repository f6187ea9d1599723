/-! dep: 80 81 82 83 84 85 -/
/-! ===== the two constructors ===== -/
theorem zK_c : (zK 488 = (2, 0) ∧ zK 134 = (3, 0) ∧ zK 1 = (8, 0) ∧ zK 517 = (9, 0) ∧ zK 506 = (4, 0) ∧ zK 511 = (7, 0) ∧ zK 514 = (7, 0) ∧ zK 513 = (5, 0) ∧ zK 508 = (6, 0)) ∧ zK 2 = (0, 0) ∧ zK 46 = (0, 0) ∧ zK 90 = (0, 0) := by decide +kernel
/-- what the class's constructor leaves -/
def zIn1 (M : zM) : Prop := zHw M ∧ (M 1 3 = 0 ∧ M 1 10 = -1 ∧ M 1 11 = -1) ∧ zAR M 2 zNil ∧ zAR M 46 zNil ∧ zAR M 90 zNil ∧ (zHh M ∧ M 134 2 = 0) ∧ zHc M ∧ zHp M ∧ zTx M 511 [] ∧ zTx M 514 [] ∧ M 513 0 = 514 ∧ M 513 3 = 516
section ZCP
variable {Y : zY} {S : zS} {pc q : Nat} {ls st : List zV} {M : zM} {bc bs : Nat} {Q : zV → zS → zM → Prop}
theorem zc_putf {own : String} {idx c k t : Nat} {ty : FieldType} {z x : Int} (j : Int) (hj : ((k : Nat) : Int) = j) (F : z_FldP own idx c k t ty) (hd : decode Y.2.1 pc = .ok (.putfield idx, 3)) (ho : Y.1.cls = own) (hq : pc + 3 = q) (h1 : 0 < z) (h2 : z ≤ S.2.1) (hk : (S.2.2 z).1 = c) (ht : t ≤ 2) (hfit : z_fit ty (t, x))
    (kk : z_Ex Y S q ls st (z_up M z j x) bc bs Q) : z_Ex Y S pc ls ((t, x) :: (1, z) :: st) M bc bs Q := zr_putf F hd ho hq h1 h2 hk ht hfit (by rw [hj]; exact kk)
theorem zc_putF {own : String} {idx c k t : Nat} {ty : FieldType} {z x : Int} (j : Int) (hj : ((k : Nat) : Int) = j) (F : z_FldF own idx c k t ty) (hd : decode Y.2.1 pc = .ok (.putfield idx, 3)) (ho : Y.1.cls = own) (hin : Y.1.name = "<init>") (hq : pc + 3 = q) (h1 : 0 < z) (h2 : z ≤ S.2.1) (hk : (S.2.2 z).1 = c) (ht : t ≤ 2) (hfit : z_fit ty (t, x))
    (kk : z_Ex Y S q ls st (z_up M z j x) bc bs Q) : z_Ex Y S pc ls ((t, x) :: (1, z) :: st) M bc bs Q := zr_putF F hd ho hin hq h1 h2 hk ht hfit (by rw [hj]; exact kk)
end ZCP
section ZCT5
variable {S : zS} {M0 : zM}
theorem c_X11_init (hS : zShp S 1 zK) : z_Call mX11_init S [(1, 1)] M0 (fun r S' M' => r = (9, 0) ∧ zShp S' 516 zK ∧ zIn1 M') := by
  refine z_enter (k := 0) rfl rfl rfl ?_
  refine zp_al0 (q := 1) dX11_init_0 rfl ?_
  refine zr_objInit (q := 4) dX11_init_1 rfl (by omega) (z_all_in (i := 82) (by decide +kernel) (by decide +kernel)) (z_all_in (i := 83) (by decide +kernel) (by decide +kernel)) (z_all_in (i := 84) (by decide +kernel) (by decide +kernel)) (Nat.le_of_ble_eq_true rfl) rfl (Nat.le_of_ble_eq_true rfl) ?_
  refine zp_al0 (q := 5) dX11_init_4 rfl ?_
  refine zc_new (z := 2) (q := 8) hS (by omega) (zK_c.2.1) (by omega) nwX11_7 dX11_init_5 rfl rfl (Nat.le_of_ble_eq_true rfl) (Nat.le_of_ble_eq_true rfl) (fun S1 hS1 => ?_)
  refine zr_dup (q := 9) dX11_init_8 rfl (Or.inr rfl) ?_
  refine zr_ctor (as := []) (c_X1_init as2 hS1 (by omega) (by omega)) (fun k S9 M9 hP => (z_no hP.1 rfl).elim) mtX1_init rfl rfl wiX1_init wlX11_9 (q := 12) dX11_init_9 rfl rfl ⟨Nat.le_of_ble_eq_true rfl, Nat.le_of_ble_eq_true rfl, rfl⟩ (by omega) rfl (Nat.le_of_ble_eq_true rfl) (Nat.le_of_ble_eq_true rfl) (Nat.le_of_ble_eq_true rfl) (fun r S2 M9 h8 hP => ?_)
  obtain ⟨rfl, hS2, R9, F9⟩ := hP
  skip
  refine zc_putF (z := 1) (k := 0) 0 rfl ffX11_10 (q := 15) dX11_init_12 rfl rfl rfl (by omega) (by rw [hS2.2.1]; omega) (by rw [hS2.2.2 _ (by omega) (by omega), zK_c.1.2.2.1]) (by decide) (z_fit_o _ _) ?_
  refine z_gen (fun M1 e1 => ?_)
  have F1 : (∀ z, z ≠ 1 → z < 2 → M1 z = M0 z) ∧ (∀ j, j ≠ 0 → M1 1 j = M0 1 j) ∧ M1 1 0 = 2 := ⟨fun z a b => by rw [e1, z_up_ne a, F9 z b, z_zero_ne (by omega)], fun j a => by rw [e1, z_up_sl a, F9 1 (by decide), z_zero_ne (by decide)], by rw [e1]; exact z_up_eq⟩
  have C1 : zAR M1 2 zNil := R9.of zNil_w (fun z z0 z1 => by rw [e1, z_up_ne (by omega)])
  clear e1
  refine zp_al0 (q := 16) dX11_init_15 rfl ?_
  refine zc_new (z := 46) (q := 19) hS2 (by omega) (zK_c.2.2.1) (by omega) nwX11_7 dX11_init_16 rfl rfl (Nat.le_of_ble_eq_true rfl) (Nat.le_of_ble_eq_true rfl) (fun S3 hS3 => ?_)
  refine zr_dup (q := 20) dX11_init_19 rfl (Or.inr rfl) ?_
  refine zr_ctor (as := []) (c_X1_init as46 hS3 (by omega) (by omega)) (fun k S9 M9 hP => (z_no hP.1 rfl).elim) mtX1_init rfl rfl wiX1_init wlX11_9 (q := 23) dX11_init_20 rfl rfl ⟨Nat.le_of_ble_eq_true rfl, Nat.le_of_ble_eq_true rfl, rfl⟩ (by omega) rfl (Nat.le_of_ble_eq_true rfl) (Nat.le_of_ble_eq_true rfl) (Nat.le_of_ble_eq_true rfl) (fun r S4 M9 h8 hP => ?_)
  obtain ⟨rfl, hS4, R9, F9⟩ := hP
  skip
  refine zc_putF (z := 1) (k := 1) 1 rfl ffX11_16 (q := 26) dX11_init_23 rfl rfl rfl (by omega) (by rw [hS4.2.1]; omega) (by rw [hS4.2.2 _ (by omega) (by omega), zK_c.1.2.2.1]) (by decide) (z_fit_o _ _) ?_
  refine z_gen (fun M2 e2 => ?_)
  have F2 : (∀ z, z ≠ 1 → z < 46 → M2 z = M1 z) ∧ (∀ j, j ≠ 1 → M2 1 j = M1 1 j) ∧ M2 1 1 = 46 := ⟨fun z a b => by rw [e2, z_up_ne a, F9 z b, z_zero_ne (by omega)], fun j a => by rw [e2, z_up_sl a, F9 1 (by decide), z_zero_ne (by decide)], by rw [e2]; exact z_up_eq⟩
  have C2 : zAR M2 46 zNil := R9.of zNil_w (fun z z0 z1 => by rw [e2, z_up_ne (by omega)])
  clear e2
  refine zp_al0 (q := 27) dX11_init_26 rfl ?_
  refine zc_new (z := 90) (q := 30) hS4 (by omega) (zK_c.2.2.2) (by omega) nwX11_7 dX11_init_27 rfl rfl (Nat.le_of_ble_eq_true rfl) (Nat.le_of_ble_eq_true rfl) (fun S5 hS5 => ?_)
  refine zr_dup (q := 31) dX11_init_30 rfl (Or.inr rfl) ?_
  refine zr_ctor (as := []) (c_X1_init as90 hS5 (by omega) (by omega)) (fun k S9 M9 hP => (z_no hP.1 rfl).elim) mtX1_init rfl rfl wiX1_init wlX11_9 (q := 34) dX11_init_31 rfl rfl ⟨Nat.le_of_ble_eq_true rfl, Nat.le_of_ble_eq_true rfl, rfl⟩ (by omega) rfl (Nat.le_of_ble_eq_true rfl) (Nat.le_of_ble_eq_true rfl) (Nat.le_of_ble_eq_true rfl) (fun r S6 M9 h8 hP => ?_)
  obtain ⟨rfl, hS6, R9, F9⟩ := hP
  skip
  refine zc_putF (z := 1) (k := 2) 2 rfl ffX11_19 (q := 37) dX11_init_34 rfl rfl rfl (by omega) (by rw [hS6.2.1]; omega) (by rw [hS6.2.2 _ (by omega) (by omega), zK_c.1.2.2.1]) (by decide) (z_fit_o _ _) ?_
  refine z_gen (fun M3 e3 => ?_)
  have F3 : (∀ z, z ≠ 1 → z < 90 → M3 z = M2 z) ∧ (∀ j, j ≠ 2 → M3 1 j = M2 1 j) ∧ M3 1 2 = 90 := ⟨fun z a b => by rw [e3, z_up_ne a, F9 z b, z_zero_ne (by omega)], fun j a => by rw [e3, z_up_sl a, F9 1 (by decide), z_zero_ne (by decide)], by rw [e3]; exact z_up_eq⟩
  have C3 : zAR M3 90 zNil := R9.of zNil_w (fun z z0 z1 => by rw [e3, z_up_ne (by omega)])
  clear e3
  refine zp_al0 (q := 38) dX11_init_37 rfl ?_
  refine zr_iconst (q := 39) dX11_init_38 rfl (z_in_of rfl) ?_
  refine zc_putf (z := 1) (k := 3) 3 rfl fpX11_22 (q := 42) dX11_init_39 rfl rfl (by omega) (by rw [hS6.2.1]; omega) (by rw [hS6.2.2 _ (by omega) (by omega), zK_c.1.2.2.1]) (by decide) (z_fit_z (by decide)) ?_
  refine z_gen (fun M4 e4 => ?_)
  have F4 : (∀ z, z ≠ 1 → M4 z = M3 z) ∧ (∀ j, j ≠ 3 → M4 1 j = M3 1 j) ∧ M4 1 3 = 0 := ⟨fun z a => by rw [e4, z_up_ne a], fun j a => by rw [e4]; exact z_up_sl a, by rw [e4]; exact z_up_eq⟩
  clear e4
  refine zp_al0 (q := 43) dX11_init_42 rfl ?_
  refine zc_new (z := 134) (q := 46) hS6 (by omega) (zK_c.1.2.1) (by omega) nwX11_26 dX11_init_43 rfl rfl (Nat.le_of_ble_eq_true rfl) (Nat.le_of_ble_eq_true rfl) (fun S7 hS7 => ?_)
  refine zr_dup (q := 47) dX11_init_46 rfl (Or.inr rfl) ?_
  refine zr_ctor (as := []) (c_X5_init hS7) (fun k S9 M9 hP => (z_no hP.1 rfl).elim) mtX5_init rfl rfl wiX5_init wlX11_28 (q := 50) dX11_init_47 rfl rfl ⟨Nat.le_of_ble_eq_true rfl, Nat.le_of_ble_eq_true rfl, rfl⟩ (by omega) rfl (Nat.le_of_ble_eq_true rfl) (Nat.le_of_ble_eq_true rfl) (Nat.le_of_ble_eq_true rfl) (fun r S8 M9 h8 hP => ?_)
  obtain ⟨rfl, hS8, R9, R9b, F9⟩ := hP
  skip
  refine zc_putF (z := 1) (k := 4) 4 rfl ffX11_29 (q := 53) dX11_init_50 rfl rfl rfl (by omega) (by rw [hS8.2.1]; omega) (by rw [hS8.2.2 _ (by omega) (by omega), zK_c.1.2.2.1]) (by decide) (z_fit_o _ _) ?_
  refine z_gen (fun M5 e5 => ?_)
  have F5 : (∀ z, z ≠ 1 → z < 134 → M5 z = M4 z) ∧ (∀ j, j ≠ 4 → M5 1 j = M4 1 j) ∧ M5 1 4 = 134 := ⟨fun z a b => by rw [e5, z_up_ne a, F9 z b, z_zero_ne (by omega)], fun j a => by rw [e5, z_up_sl a, F9 1 (by decide), z_zero_ne (by decide)], by rw [e5]; exact z_up_eq⟩
  have C5 : zHh M5 ∧ M5 134 2 = 0 := ⟨R9.of (fun z z0 z1 => by rw [e5, z_up_ne (by omega)]), by rw [e5, z_up_ne (by decide)]; exact R9b⟩
  clear e5
  refine zp_al0 (q := 54) dX11_init_53 rfl ?_
  refine zc_new (z := 488) (q := 57) hS8 (by omega) (zK_c.1.1) (by omega) nwX11_33 dX11_init_54 rfl rfl (Nat.le_of_ble_eq_true rfl) (Nat.le_of_ble_eq_true rfl) (fun S9 hS9 => ?_)
  refine zr_dup (q := 58) dX11_init_57 rfl (Or.inr rfl) ?_
  refine zr_ctor (as := []) (c_X3_init hS9) (fun k S9 M9 hP => (z_no hP.1 rfl).elim) mtX3_init rfl rfl wiX3_init wlX11_35 (q := 61) dX11_init_58 rfl rfl ⟨Nat.le_of_ble_eq_true rfl, Nat.le_of_ble_eq_true rfl, rfl⟩ (by omega) rfl (Nat.le_of_ble_eq_true rfl) (Nat.le_of_ble_eq_true rfl) (Nat.le_of_ble_eq_true rfl) (fun r S10 M9 h8 hP => ?_)
  obtain ⟨rfl, hS10, R9, F9⟩ := hP
  skip
  refine zc_putF (z := 1) (k := 5) 5 rfl ffX11_36 (q := 64) dX11_init_61 rfl rfl rfl (by omega) (by rw [hS10.2.1]; omega) (by rw [hS10.2.2 _ (by omega) (by omega), zK_c.1.2.2.1]) (by decide) (z_fit_o _ _) ?_
  refine z_gen (fun M6 e6 => ?_)
  have F6 : (∀ z, z ≠ 1 → z < 488 → M6 z = M5 z) ∧ (∀ j, j ≠ 5 → M6 1 j = M5 1 j) ∧ M6 1 5 = 488 := ⟨fun z a b => by rw [e6, z_up_ne a, F9 z b, z_zero_ne (by omega)], fun j a => by rw [e6, z_up_sl a, F9 1 (by decide), z_zero_ne (by decide)], by rw [e6]; exact z_up_eq⟩
  have C6 : zHc M6 := R9.of (fun z z0 z1 => by rw [e6, z_up_ne (by omega)])
  clear e6
  refine zp_al0 (q := 65) dX11_init_64 rfl ?_
  refine zc_new (z := 506) (q := 68) hS10 (by omega) (zK_c.1.2.2.2.2.1) (by omega) nwX11_40 dX11_init_65 rfl rfl (Nat.le_of_ble_eq_true rfl) (Nat.le_of_ble_eq_true rfl) (fun S11 hS11 => ?_)
  refine zr_dup (q := 69) dX11_init_68 rfl (Or.inr rfl) ?_
  refine zr_ctorN (host := "WindElection") (as := []) (c_X6_init (z := 506) hS11 (by omega) (by omega) (by omega) zK_c.1.2.2.2.2.1 k507.2.2 zK_c.1.2.2.2.2.2.2.2.2 k509.2.2) (fun k S9 M9 hP => (z_no hP.1 rfl).elim) mtX6_init rfl rfl wiX6_init (List.mem_of_getElem? (i := 233) (by decide +kernel)) (q := 72) dX11_init_69 rfl rfl ⟨Nat.le_of_ble_eq_true rfl, Nat.le_of_ble_eq_true rfl, rfl⟩ (by omega) rfl (Nat.le_of_ble_eq_true rfl) (Nat.le_of_ble_eq_true rfl) (Nat.le_of_ble_eq_true rfl) (fun r S12 M9 h8 hP => ?_)
  obtain ⟨rfl, hS12, h9⟩ := hP
  subst M9
  refine zc_putF (z := 1) (k := 6) 6 rfl ffX11_43 (q := 75) dX11_init_72 rfl rfl rfl (by omega) (by rw [hS12.2.1]; omega) (by rw [hS12.2.2 _ (by omega) (by omega), zK_c.1.2.2.1]) (by decide) (z_fit_o _ _) ?_
  refine z_gen (fun M7 e7 => ?_)
  have F7 : (∀ z, z ≠ 1 → z < 506 → M7 z = M6 z) ∧ (∀ j, j ≠ 6 → M7 1 j = M6 1 j) ∧ M7 1 6 = 506 := ⟨fun z a b => by rw [e7, z_up_ne a]; unfold mP mR; rw [z_up_ne (by omega), z_up_ne (by omega), z_up_ne (by omega), z_up_ne (by omega), z_up_ne (by omega), z_up_ne (by omega), z_zero_ne (by omega), z_zero_ne (by omega), z_up_ne (by omega), z_zero_ne (by omega), z_zero_ne (by omega)], fun j a => by rw [e7, z_up_sl a]; unfold mP mR; rw [z_up_ne (by decide), z_up_ne (by decide), z_up_ne (by decide), z_up_ne (by decide), z_up_ne (by decide), z_up_ne (by decide), z_zero_ne (by decide), z_zero_ne (by decide), z_up_ne (by decide), z_zero_ne (by decide), z_zero_ne (by decide)], by rw [e7]; exact z_up_eq⟩
  have C7 : zHp M7 := by
    rw [e7]
    unfold zHp
    rw [z_up_ne (by decide), z_up_ne (by decide)]
    unfold mP mR z_up z_zero
    simp
  clear e7
  refine zp_al0 (q := 76) dX11_init_75 rfl ?_
  refine zr_bipush (q := 78) dX11_init_76 rfl (z_in_of rfl) (by decide +kernel) ?_
  refine zc_newa (z := 510) (q := 80) hS12 (by omega) (k510.2.2) (by omega) (ty := .int) rfl (by decide) (z_all_in (i := 117) (by decide +kernel) (by decide +kernel)) dX11_init_78 rfl rfl (by decide) (Nat.le_of_ble_eq_true rfl) (Nat.le_of_ble_eq_true rfl) (fun S13 hS13 => ?_)
  refine zc_putF (z := 1) (k := 7) 7 rfl ffX11_47 (q := 83) dX11_init_80 rfl rfl rfl (by omega) (by rw [hS13.2.1]; omega) (by rw [hS13.2.2 _ (by omega) (by omega), zK_c.1.2.2.1]) (by decide) (z_fit_a _ _) ?_
  refine z_gen (fun M8 e8 => ?_)
  have F8 : (∀ z, z ≠ 1 → z < 510 → M8 z = M7 z) ∧ (∀ j, j ≠ 7 → M8 1 j = M7 1 j) ∧ M8 1 7 = 510 := ⟨fun z a b => by rw [e8, z_up_ne a, z_zero_ne (by omega)], fun j a => by rw [e8, z_up_sl a, z_zero_ne (by decide)], by rw [e8]; exact z_up_eq⟩
  have C8 : ∀ j, M8 510 j = 0 := fun j => by rw [e8, z_up_ne (by decide), z_zero_eq]
  clear e8
  refine zp_al0 (q := 84) dX11_init_83 rfl ?_
  refine zc_new (z := 511) (q := 87) hS13 (by omega) (zK_c.1.2.2.2.2.2.1) (by omega) nwX11_51 dX11_init_84 rfl rfl (Nat.le_of_ble_eq_true rfl) (Nat.le_of_ble_eq_true rfl) (fun S14 hS14 => ?_)
  refine zr_dup (q := 88) dX11_init_87 rfl (Or.inr rfl) ?_
  refine zr_ctorN (host := "WindElection") (as := []) (c_X9_init (z := 511) hS14 (by omega) (by omega) (by omega) zK_c.1.2.2.2.2.2.1 k512.2.2) (fun k S9 M9 hP => (z_no hP.1 rfl).elim) mtX9_init rfl rfl wiX9_init (List.mem_of_getElem? (i := 248) (by decide +kernel)) (q := 91) dX11_init_88 rfl rfl ⟨Nat.le_of_ble_eq_true rfl, Nat.le_of_ble_eq_true rfl, rfl⟩ (by omega) rfl (Nat.le_of_ble_eq_true rfl) (Nat.le_of_ble_eq_true rfl) (Nat.le_of_ble_eq_true rfl) (fun r S15 M9 h8 hP => ?_)
  obtain ⟨rfl, hS15, h9⟩ := hP
  subst M9
  refine zc_putF (z := 1) (k := 8) 8 rfl ffX11_54 (q := 94) dX11_init_91 rfl rfl rfl (by omega) (by rw [hS15.2.1]; omega) (by rw [hS15.2.2 _ (by omega) (by omega), zK_c.1.2.2.1]) (by decide) (z_fit_o _ _) ?_
  refine z_gen (fun M9 e9 => ?_)
  have F9 : (∀ z, z ≠ 1 → z < 511 → M9 z = M8 z) ∧ (∀ j, j ≠ 8 → M9 1 j = M8 1 j) ∧ M9 1 8 = 511 := ⟨fun z a b => by rw [e9, z_up_ne a]; unfold mT; rw [z_up_ne (by omega), z_up_ne (by omega), z_zero_ne (by omega), z_zero_ne (by omega)], fun j a => by rw [e9, z_up_sl a]; unfold mT; rw [z_up_ne (by decide), z_up_ne (by decide), z_zero_ne (by decide), z_zero_ne (by decide)], by rw [e9]; exact z_up_eq⟩
  have C9 : zTx M9 511 [] := by
    rw [e9]
    unfold zTx
    rw [z_up_ne (by decide)]
    unfold mT
    exact ⟨by rw [z_up_sl (by decide)]; exact z_up_eq, z_up_eq, fun i hi => absurd hi (Nat.not_lt_zero _)⟩
  clear e9
  refine zp_al0 (q := 95) dX11_init_94 rfl ?_
  refine zc_new (z := 513) (q := 98) hS15 (by omega) (zK_c.1.2.2.2.2.2.2.2.1) (by omega) nwX11_58 dX11_init_95 rfl rfl (Nat.le_of_ble_eq_true rfl) (Nat.le_of_ble_eq_true rfl) (fun S16 hS16 => ?_)
  refine zr_dup (q := 99) dX11_init_98 rfl (Or.inr rfl) ?_
  refine zr_ctorN (host := "WindElection") (as := []) (c_X7_init (z := 513) hS16 (by omega) (by omega) (by omega) zK_c.1.2.2.2.2.2.2.2.1 zK_c.1.2.2.2.2.2.2.1 k515.2.2 k516.2.2) (fun k S9 M9 hP => (z_no hP.1 rfl).elim) mtX7_init rfl rfl wiX7_init (List.mem_of_getElem? (i := 265) (by decide +kernel)) (q := 102) dX11_init_99 rfl rfl ⟨Nat.le_of_ble_eq_true rfl, Nat.le_of_ble_eq_true rfl, rfl⟩ (by omega) rfl (Nat.le_of_ble_eq_true rfl) (Nat.le_of_ble_eq_true rfl) (Nat.le_of_ble_eq_true rfl) (fun r S17 M9 h8 hP => ?_)
  obtain ⟨rfl, hS17, h9⟩ := hP
  subst M9
  refine zc_putF (z := 1) (k := 9) 9 rfl ffX11_61 (q := 105) dX11_init_102 rfl rfl rfl (by omega) (by rw [hS17.2.1]; omega) (by rw [hS17.2.2 _ (by omega) (by omega), zK_c.1.2.2.1]) (by decide) (z_fit_o _ _) ?_
  refine z_gen (fun M10 e10 => ?_)
  have F10 : (∀ z, z ≠ 1 → z < 513 → M10 z = M9 z) ∧ (∀ j, j ≠ 9 → M10 1 j = M9 1 j) ∧ M10 1 9 = 513 := ⟨fun z a b => by rw [e10, z_up_ne a]; unfold mD mT; rw [z_up_ne (by omega), z_up_ne (by omega), z_zero_ne (by omega), z_up_ne (by omega), z_up_ne (by omega), z_up_ne (by omega), z_up_ne (by omega), z_up_ne (by omega), z_zero_ne (by omega), z_zero_ne (by omega), z_zero_ne (by omega)], fun j a => by rw [e10, z_up_sl a]; unfold mD mT; rw [z_up_ne (by decide), z_up_ne (by decide), z_zero_ne (by decide), z_up_ne (by decide), z_up_ne (by decide), z_up_ne (by decide), z_up_ne (by decide), z_up_ne (by decide), z_zero_ne (by decide), z_zero_ne (by decide), z_zero_ne (by decide)], by rw [e10]; exact z_up_eq⟩
  have C10 : (M10 513 0 = 514 ∧ M10 513 3 = 516) ∧ zTx M10 514 [] := by
    rw [e10]
    unfold zTx mD mT z_up z_zero
    simp
  clear e10
  refine zp_al0 (q := 106) dX11_init_105 rfl ?_
  refine zr_iconst (q := 107) dX11_init_106 rfl (z_in_of rfl) ?_
  refine zc_putf (z := 1) (k := 10) 10 rfl fpX11_65 (q := 110) dX11_init_107 rfl rfl (by omega) (by rw [hS17.2.1]; omega) (by rw [hS17.2.2 _ (by omega) (by omega), zK_c.1.2.2.1]) (by decide) (z_fit_i _) ?_
  refine z_gen (fun M11 e11 => ?_)
  have F11 : (∀ z, z ≠ 1 → M11 z = M10 z) ∧ (∀ j, j ≠ 10 → M11 1 j = M10 1 j) ∧ M11 1 10 = -1 := ⟨fun z a => by rw [e11, z_up_ne a], fun j a => by rw [e11]; exact z_up_sl a, by rw [e11]; exact z_up_eq⟩
  clear e11
  refine zp_al0 (q := 111) dX11_init_110 rfl ?_
  refine zr_iconst (q := 112) dX11_init_111 rfl (z_in_of rfl) ?_
  refine zc_putf (z := 1) (k := 11) 11 rfl fpX11_69 (q := 115) dX11_init_112 rfl rfl (by omega) (by rw [hS17.2.1]; omega) (by rw [hS17.2.2 _ (by omega) (by omega), zK_c.1.2.2.1]) (by decide) (z_fit_i _) ?_
  refine z_gen (fun M12 e12 => ?_)
  have F12 : (∀ z, z ≠ 1 → M12 z = M11 z) ∧ (∀ j, j ≠ 11 → M12 1 j = M11 1 j) ∧ M12 1 11 = -1 := ⟨fun z a => by rw [e12, z_up_ne a], fun j a => by rw [e12]; exact z_up_sl a, by rw [e12]; exact z_up_eq⟩
  clear e12
  refine zr_return dX11_init_115 rfl ?_
  have E12 : ∀ z, z ≠ 1 → z < 100000 → M12 z = M12 z := fun z _ _ => rfl
  have E11 : ∀ z, z ≠ 1 → z < 100000 → M12 z = M11 z := fun z a b => (E12 z a (by omega)).trans (F12.1 z a)
  have E10 : ∀ z, z ≠ 1 → z < 100000 → M12 z = M10 z := fun z a b => (E11 z a (by omega)).trans (F11.1 z a)
  have E9 : ∀ z, z ≠ 1 → z < 513 → M12 z = M9 z := fun z a b => (E10 z a (by omega)).trans (F10.1 z a (by omega))
  have E8 : ∀ z, z ≠ 1 → z < 511 → M12 z = M8 z := fun z a b => (E9 z a (by omega)).trans (F9.1 z a (by omega))
  have E7 : ∀ z, z ≠ 1 → z < 510 → M12 z = M7 z := fun z a b => (E8 z a (by omega)).trans (F8.1 z a (by omega))
  have E6 : ∀ z, z ≠ 1 → z < 506 → M12 z = M6 z := fun z a b => (E7 z a (by omega)).trans (F7.1 z a (by omega))
  have E5 : ∀ z, z ≠ 1 → z < 488 → M12 z = M5 z := fun z a b => (E6 z a (by omega)).trans (F6.1 z a (by omega))
  have E4 : ∀ z, z ≠ 1 → z < 134 → M12 z = M4 z := fun z a b => (E5 z a (by omega)).trans (F5.1 z a (by omega))
  have E3 : ∀ z, z ≠ 1 → z < 134 → M12 z = M3 z := fun z a b => (E4 z a (by omega)).trans (F4.1 z a)
  have E2 : ∀ z, z ≠ 1 → z < 90 → M12 z = M2 z := fun z a b => (E3 z a (by omega)).trans (F3.1 z a (by omega))
  have E1 : ∀ z, z ≠ 1 → z < 46 → M12 z = M1 z := fun z a b => (E2 z a (by omega)).trans (F2.1 z a (by omega))
  have E0 : ∀ z, z ≠ 1 → z < 2 → M12 z = M0 z := fun z a b => (E1 z a (by omega)).trans (F1.1 z a (by omega))
  have P0 : M12 1 0 = 2 := by rw [F12.2.1 0 (by decide), F11.2.1 0 (by decide), F10.2.1 0 (by decide), F9.2.1 0 (by decide), F8.2.1 0 (by decide), F7.2.1 0 (by decide), F6.2.1 0 (by decide), F5.2.1 0 (by decide), F4.2.1 0 (by decide), F3.2.1 0 (by decide), F2.2.1 0 (by decide)]; exact F1.2.2
  have P1 : M12 1 1 = 46 := by rw [F12.2.1 1 (by decide), F11.2.1 1 (by decide), F10.2.1 1 (by decide), F9.2.1 1 (by decide), F8.2.1 1 (by decide), F7.2.1 1 (by decide), F6.2.1 1 (by decide), F5.2.1 1 (by decide), F4.2.1 1 (by decide), F3.2.1 1 (by decide)]; exact F2.2.2
  have P2 : M12 1 2 = 90 := by rw [F12.2.1 2 (by decide), F11.2.1 2 (by decide), F10.2.1 2 (by decide), F9.2.1 2 (by decide), F8.2.1 2 (by decide), F7.2.1 2 (by decide), F6.2.1 2 (by decide), F5.2.1 2 (by decide), F4.2.1 2 (by decide)]; exact F3.2.2
  have P3 : M12 1 3 = 0 := by rw [F12.2.1 3 (by decide), F11.2.1 3 (by decide), F10.2.1 3 (by decide), F9.2.1 3 (by decide), F8.2.1 3 (by decide), F7.2.1 3 (by decide), F6.2.1 3 (by decide), F5.2.1 3 (by decide)]; exact F4.2.2
  have P4 : M12 1 4 = 134 := by rw [F12.2.1 4 (by decide), F11.2.1 4 (by decide), F10.2.1 4 (by decide), F9.2.1 4 (by decide), F8.2.1 4 (by decide), F7.2.1 4 (by decide), F6.2.1 4 (by decide)]; exact F5.2.2
  have P5 : M12 1 5 = 488 := by rw [F12.2.1 5 (by decide), F11.2.1 5 (by decide), F10.2.1 5 (by decide), F9.2.1 5 (by decide), F8.2.1 5 (by decide), F7.2.1 5 (by decide)]; exact F6.2.2
  have P6 : M12 1 6 = 506 := by rw [F12.2.1 6 (by decide), F11.2.1 6 (by decide), F10.2.1 6 (by decide), F9.2.1 6 (by decide), F8.2.1 6 (by decide)]; exact F7.2.2
  have P7 : M12 1 7 = 510 := by rw [F12.2.1 7 (by decide), F11.2.1 7 (by decide), F10.2.1 7 (by decide), F9.2.1 7 (by decide)]; exact F8.2.2
  have P8 : M12 1 8 = 511 := by rw [F12.2.1 8 (by decide), F11.2.1 8 (by decide), F10.2.1 8 (by decide)]; exact F9.2.2
  have P9 : M12 1 9 = 513 := by rw [F12.2.1 9 (by decide), F11.2.1 9 (by decide)]; exact F10.2.2
  have P10 : M12 1 10 = -1 := by rw [F12.2.1 10 (by decide)]; exact F11.2.2
  have P11 : M12 1 11 = -1 := F12.2.2
  refine ⟨rfl, hS17, ⟨P0, P1, P2, P4, P5, P6, P7, P8, P9⟩, ⟨P3, P10, P11⟩, C1.of zNil_w (fun z a b => E1 z (by omega) (by omega)), C2.of zNil_w (fun z a b => E2 z (by omega) (by omega)), C3.of zNil_w (fun z a b => E3 z (by omega) (by omega)), ⟨C5.1.of (fun z a b => E5 z (by omega) (by omega)), by rw [E5 134 (by decide) (by decide)]; exact C5.2⟩, ⟨by rw [E6 488 (by decide) (by decide)]; exact C6.1, fun k k0 k1 => by rw [E6 489 (by decide) (by decide), E6 _ (by omega) (by omega)]; exact C6.2 k k0 k1⟩, ?_, C9.of (E9 511 (by decide) (by decide)) (E9 512 (by decide) (by decide)), C10.2.of (E10 514 (by decide) (by decide)) (E10 515 (by decide) (by decide)), ?_, ?_⟩
  · unfold zHp
    rw [E7 506 (by decide) (by decide), E7 508 (by decide) (by decide)]
    exact C7
  · rw [E10 513 (by decide) (by decide)]; exact C10.1.1
  · rw [E10 513 (by decide) (by decide)]; exact C10.1.2
/-- what the reference's constructor leaves -/
def zIn2 (M : zM) : Prop := zHm M ∧ (M 517 4 = 0 ∧ M 517 5 = 0 ∧ M 517 6 = 0 ∧ M 517 9 = 0 ∧ M 517 10 = -1 ∧ M 517 11 = -1 ∧ M 517 13 = 0) ∧ M 518 = zNil
theorem c_X12_init (hS : zShp S 517 zK) (hM : ∀ j, M0 517 j = 0) : z_Call mX12_init S [(1, 517)] M0 (fun r S' M' => r = (9, 0) ∧ zShp S' 528 zK ∧ zIn2 M' ∧ ∀ z, z < 517 → M' z = M0 z) := by
  refine z_enter (k := 0) rfl rfl rfl ?_
  refine zp_al0 (q := 1) dX12_init_0 rfl ?_
  refine zr_objInit (q := 4) dX12_init_1 rfl (by omega) (z_all_in (i := 1230) (by decide +kernel) (by decide +kernel)) (z_all_in (i := 83) (by decide +kernel) (by decide +kernel)) (z_all_in (i := 84) (by decide +kernel) (by decide +kernel)) (Nat.le_of_ble_eq_true rfl) rfl (Nat.le_of_ble_eq_true rfl) ?_
  refine zp_al0 (q := 5) dX12_init_4 rfl ?_
  refine zr_sipush (q := 8) dX12_init_5 rfl (z_in_of rfl) (by decide +kernel) ?_
  refine zc_newa (z := 518) (q := 10) hS (by omega) (k518.2.2) (by omega) (ty := .int) rfl (by decide) (z_all_in (i := 117) (by decide +kernel) (by decide +kernel)) dX12_init_8 rfl rfl (by decide) (Nat.le_of_ble_eq_true rfl) (Nat.le_of_ble_eq_true rfl) (fun S1 hS1 => ?_)
  refine zc_putF (z := 517) (k := 0) 0 rfl ffX12_7 (q := 13) dX12_init_10 rfl rfl rfl (by omega) (by rw [hS1.2.1]; omega) (by rw [hS1.2.2 _ (by omega) (by omega), zK_c.1.2.2.2.1]) (by decide) (z_fit_a _ _) ?_
  refine z_gen (fun M1 e1 => ?_)
  have F1 : (∀ z, z ≠ 517 → z < 518 → M1 z = M0 z) ∧ (∀ j, j ≠ 0 → M1 517 j = M0 517 j) ∧ M1 517 0 = 518 := ⟨fun z a b => by rw [e1, z_up_ne a, z_zero_ne (by omega)], fun j a => by rw [e1, z_up_sl a, z_zero_ne (by decide)], by rw [e1]; exact z_up_eq⟩
  have C1 : ∀ j, M1 518 j = 0 := fun j => by rw [e1, z_up_ne (by decide), z_zero_eq]
  clear e1
  refine zp_al0 (q := 14) dX12_init_13 rfl ?_
  refine zr_sipush (q := 17) dX12_init_14 rfl (z_in_of rfl) (by decide +kernel) ?_
  refine zc_newa (z := 519) (q := 19) hS1 (by omega) (k519.2.2) (by omega) (ty := .int) rfl (by decide) (z_all_in (i := 117) (by decide +kernel) (by decide +kernel)) dX12_init_17 rfl rfl (by decide) (Nat.le_of_ble_eq_true rfl) (Nat.le_of_ble_eq_true rfl) (fun S2 hS2 => ?_)
  refine zc_putF (z := 517) (k := 1) 1 rfl ffX12_13 (q := 22) dX12_init_19 rfl rfl rfl (by omega) (by rw [hS2.2.1]; omega) (by rw [hS2.2.2 _ (by omega) (by omega), zK_c.1.2.2.2.1]) (by decide) (z_fit_a _ _) ?_
  refine z_gen (fun M2 e2 => ?_)
  have F2 : (∀ z, z ≠ 517 → z < 519 → M2 z = M1 z) ∧ (∀ j, j ≠ 1 → M2 517 j = M1 517 j) ∧ M2 517 1 = 519 := ⟨fun z a b => by rw [e2, z_up_ne a, z_zero_ne (by omega)], fun j a => by rw [e2, z_up_sl a, z_zero_ne (by decide)], by rw [e2]; exact z_up_eq⟩
  have C2 : ∀ j, M2 519 j = 0 := fun j => by rw [e2, z_up_ne (by decide), z_zero_eq]
  clear e2
  refine zp_al0 (q := 23) dX12_init_22 rfl ?_
  refine zr_sipush (q := 26) dX12_init_23 rfl (z_in_of rfl) (by decide +kernel) ?_
  refine zc_newa (z := 520) (q := 28) hS2 (by omega) (k520.2.2) (by omega) (ty := .int) rfl (by decide) (z_all_in (i := 117) (by decide +kernel) (by decide +kernel)) dX12_init_26 rfl rfl (by decide) (Nat.le_of_ble_eq_true rfl) (Nat.le_of_ble_eq_true rfl) (fun S3 hS3 => ?_)
  refine zc_putF (z := 517) (k := 2) 2 rfl ffX12_16 (q := 31) dX12_init_28 rfl rfl rfl (by omega) (by rw [hS3.2.1]; omega) (by rw [hS3.2.2 _ (by omega) (by omega), zK_c.1.2.2.2.1]) (by decide) (z_fit_a _ _) ?_
  refine z_gen (fun M3 e3 => ?_)
  have F3 : (∀ z, z ≠ 517 → z < 520 → M3 z = M2 z) ∧ (∀ j, j ≠ 2 → M3 517 j = M2 517 j) ∧ M3 517 2 = 520 := ⟨fun z a b => by rw [e3, z_up_ne a, z_zero_ne (by omega)], fun j a => by rw [e3, z_up_sl a, z_zero_ne (by decide)], by rw [e3]; exact z_up_eq⟩
  have C3 : ∀ j, M3 520 j = 0 := fun j => by rw [e3, z_up_ne (by decide), z_zero_eq]
  clear e3
  refine zp_al0 (q := 32) dX12_init_31 rfl ?_
  refine zr_sipush (q := 35) dX12_init_32 rfl (z_in_of rfl) (by decide +kernel) ?_
  refine zc_newa (z := 521) (q := 37) hS3 (by omega) (k521.2.2) (by omega) (ty := .int) rfl (by decide) (z_all_in (i := 117) (by decide +kernel) (by decide +kernel)) dX12_init_35 rfl rfl (by decide) (Nat.le_of_ble_eq_true rfl) (Nat.le_of_ble_eq_true rfl) (fun S4 hS4 => ?_)
  refine zc_putF (z := 517) (k := 3) 3 rfl ffX12_19 (q := 40) dX12_init_37 rfl rfl rfl (by omega) (by rw [hS4.2.1]; omega) (by rw [hS4.2.2 _ (by omega) (by omega), zK_c.1.2.2.2.1]) (by decide) (z_fit_a _ _) ?_
  refine z_gen (fun M4 e4 => ?_)
  have F4 : (∀ z, z ≠ 517 → z < 521 → M4 z = M3 z) ∧ (∀ j, j ≠ 3 → M4 517 j = M3 517 j) ∧ M4 517 3 = 521 := ⟨fun z a b => by rw [e4, z_up_ne a, z_zero_ne (by omega)], fun j a => by rw [e4, z_up_sl a, z_zero_ne (by decide)], by rw [e4]; exact z_up_eq⟩
  have C4 : ∀ j, M4 521 j = 0 := fun j => by rw [e4, z_up_ne (by decide), z_zero_eq]
  clear e4
  refine zp_al0 (q := 41) dX12_init_40 rfl ?_
  refine zr_bipush (q := 43) dX12_init_41 rfl (z_in_of rfl) (by decide +kernel) ?_
  refine zc_newa (z := 522) (q := 45) hS4 (by omega) (k522.2.2) (by omega) (ty := .int) rfl (by decide) (z_all_in (i := 117) (by decide +kernel) (by decide +kernel)) dX12_init_43 rfl rfl (by decide) (Nat.le_of_ble_eq_true rfl) (Nat.le_of_ble_eq_true rfl) (fun S5 hS5 => ?_)
  refine zc_putF (z := 517) (k := 8) 8 rfl ffX12_22 (q := 48) dX12_init_45 rfl rfl rfl (by omega) (by rw [hS5.2.1]; omega) (by rw [hS5.2.2 _ (by omega) (by omega), zK_c.1.2.2.2.1]) (by decide) (z_fit_a _ _) ?_
  refine z_gen (fun M5 e5 => ?_)
  have F5 : (∀ z, z ≠ 517 → z < 522 → M5 z = M4 z) ∧ (∀ j, j ≠ 8 → M5 517 j = M4 517 j) ∧ M5 517 8 = 522 := ⟨fun z a b => by rw [e5, z_up_ne a, z_zero_ne (by omega)], fun j a => by rw [e5, z_up_sl a, z_zero_ne (by decide)], by rw [e5]; exact z_up_eq⟩
  have C5 : ∀ j, M5 522 j = 0 := fun j => by rw [e5, z_up_ne (by decide), z_zero_eq]
  clear e5
  refine zp_al0 (q := 49) dX12_init_48 rfl ?_
  refine zr_iconst (q := 50) dX12_init_49 rfl (z_in_of rfl) ?_
  refine zc_putf (z := 517) (k := 10) 10 rfl fpX12_25 (q := 53) dX12_init_50 rfl rfl (by omega) (by rw [hS5.2.1]; omega) (by rw [hS5.2.2 _ (by omega) (by omega), zK_c.1.2.2.2.1]) (by decide) (z_fit_i _) ?_
  refine z_gen (fun M6 e6 => ?_)
  have F6 : (∀ z, z ≠ 517 → M6 z = M5 z) ∧ (∀ j, j ≠ 10 → M6 517 j = M5 517 j) ∧ M6 517 10 = -1 := ⟨fun z a => by rw [e6, z_up_ne a], fun j a => by rw [e6]; exact z_up_sl a, by rw [e6]; exact z_up_eq⟩
  clear e6
  refine zp_al0 (q := 54) dX12_init_53 rfl ?_
  refine zr_iconst (q := 55) dX12_init_54 rfl (z_in_of rfl) ?_
  refine zc_putf (z := 517) (k := 11) 11 rfl fpX12_29 (q := 58) dX12_init_55 rfl rfl (by omega) (by rw [hS5.2.1]; omega) (by rw [hS5.2.2 _ (by omega) (by omega), zK_c.1.2.2.2.1]) (by decide) (z_fit_i _) ?_
  refine z_gen (fun M7 e7 => ?_)
  have F7 : (∀ z, z ≠ 517 → M7 z = M6 z) ∧ (∀ j, j ≠ 11 → M7 517 j = M6 517 j) ∧ M7 517 11 = -1 := ⟨fun z a => by rw [e7, z_up_ne a], fun j a => by rw [e7]; exact z_up_sl a, by rw [e7]; exact z_up_eq⟩
  clear e7
  refine zp_al0 (q := 59) dX12_init_58 rfl ?_
  refine zr_bipush (q := 61) dX12_init_59 rfl (z_in_of rfl) (by decide +kernel) ?_
  refine zc_newa (z := 523) (q := 63) hS5 (by omega) (k523.2.2) (by omega) (ty := .char) rfl (by decide) (z_all_in (i := 262) (by decide +kernel) (by decide +kernel)) dX12_init_61 rfl rfl (by decide) (Nat.le_of_ble_eq_true rfl) (Nat.le_of_ble_eq_true rfl) (fun S6 hS6 => ?_)
  refine zc_putF (z := 517) (k := 12) 12 rfl ffX12_32 (q := 66) dX12_init_63 rfl rfl rfl (by omega) (by rw [hS6.2.1]; omega) (by rw [hS6.2.2 _ (by omega) (by omega), zK_c.1.2.2.2.1]) (by decide) (z_fit_a _ _) ?_
  refine z_gen (fun M8 e8 => ?_)
  have F8 : (∀ z, z ≠ 517 → z < 523 → M8 z = M7 z) ∧ (∀ j, j ≠ 12 → M8 517 j = M7 517 j) ∧ M8 517 12 = 523 := ⟨fun z a b => by rw [e8, z_up_ne a, z_zero_ne (by omega)], fun j a => by rw [e8, z_up_sl a, z_zero_ne (by decide)], by rw [e8]; exact z_up_eq⟩
  have C8 : ∀ j, M8 523 j = 0 := fun j => by rw [e8, z_up_ne (by decide), z_zero_eq]
  clear e8
  refine zp_al0 (q := 67) dX12_init_66 rfl ?_
  refine zr_bipush (q := 69) dX12_init_67 rfl (z_in_of rfl) (by decide +kernel) ?_
  refine zc_newa (z := 524) (q := 71) hS6 (by omega) (k524.2.2) (by omega) (ty := .int) rfl (by decide) (z_all_in (i := 117) (by decide +kernel) (by decide +kernel)) dX12_init_69 rfl rfl (by decide) (Nat.le_of_ble_eq_true rfl) (Nat.le_of_ble_eq_true rfl) (fun S7 hS7 => ?_)
  refine zc_putF (z := 517) (k := 14) 14 rfl ffX12_36 (q := 74) dX12_init_71 rfl rfl rfl (by omega) (by rw [hS7.2.1]; omega) (by rw [hS7.2.2 _ (by omega) (by omega), zK_c.1.2.2.2.1]) (by decide) (z_fit_a _ _) ?_
  refine z_gen (fun M9 e9 => ?_)
  have F9 : (∀ z, z ≠ 517 → z < 524 → M9 z = M8 z) ∧ (∀ j, j ≠ 14 → M9 517 j = M8 517 j) ∧ M9 517 14 = 524 := ⟨fun z a b => by rw [e9, z_up_ne a, z_zero_ne (by omega)], fun j a => by rw [e9, z_up_sl a, z_zero_ne (by decide)], by rw [e9]; exact z_up_eq⟩
  have C9 : ∀ j, M9 524 j = 0 := fun j => by rw [e9, z_up_ne (by decide), z_zero_eq]
  clear e9
  refine zp_al0 (q := 75) dX12_init_74 rfl ?_
  refine zr_bipush (q := 77) dX12_init_75 rfl (z_in_of rfl) (by decide +kernel) ?_
  refine zc_newa (z := 525) (q := 79) hS7 (by omega) (k525.2.2) (by omega) (ty := .int) rfl (by decide) (z_all_in (i := 117) (by decide +kernel) (by decide +kernel)) dX12_init_77 rfl rfl (by decide) (Nat.le_of_ble_eq_true rfl) (Nat.le_of_ble_eq_true rfl) (fun S8 hS8 => ?_)
  refine zc_putF (z := 517) (k := 15) 15 rfl ffX12_39 (q := 82) dX12_init_79 rfl rfl rfl (by omega) (by rw [hS8.2.1]; omega) (by rw [hS8.2.2 _ (by omega) (by omega), zK_c.1.2.2.2.1]) (by decide) (z_fit_a _ _) ?_
  refine z_gen (fun M10 e10 => ?_)
  have F10 : (∀ z, z ≠ 517 → z < 525 → M10 z = M9 z) ∧ (∀ j, j ≠ 15 → M10 517 j = M9 517 j) ∧ M10 517 15 = 525 := ⟨fun z a b => by rw [e10, z_up_ne a, z_zero_ne (by omega)], fun j a => by rw [e10, z_up_sl a, z_zero_ne (by decide)], by rw [e10]; exact z_up_eq⟩
  have C10 : ∀ j, M10 525 j = 0 := fun j => by rw [e10, z_up_ne (by decide), z_zero_eq]
  clear e10
  refine zp_al0 (q := 83) dX12_init_82 rfl ?_
  refine zr_bipush (q := 85) dX12_init_83 rfl (z_in_of rfl) (by decide +kernel) ?_
  refine zc_newa (z := 526) (q := 87) hS8 (by omega) (k526.2.2) (by omega) (ty := .int) rfl (by decide) (z_all_in (i := 117) (by decide +kernel) (by decide +kernel)) dX12_init_85 rfl rfl (by decide) (Nat.le_of_ble_eq_true rfl) (Nat.le_of_ble_eq_true rfl) (fun S9 hS9 => ?_)
  refine zc_putF (z := 517) (k := 16) 16 rfl ffX12_42 (q := 90) dX12_init_87 rfl rfl rfl (by omega) (by rw [hS9.2.1]; omega) (by rw [hS9.2.2 _ (by omega) (by omega), zK_c.1.2.2.2.1]) (by decide) (z_fit_a _ _) ?_
  refine z_gen (fun M11 e11 => ?_)
  have F11 : (∀ z, z ≠ 517 → z < 526 → M11 z = M10 z) ∧ (∀ j, j ≠ 16 → M11 517 j = M10 517 j) ∧ M11 517 16 = 526 := ⟨fun z a b => by rw [e11, z_up_ne a, z_zero_ne (by omega)], fun j a => by rw [e11, z_up_sl a, z_zero_ne (by decide)], by rw [e11]; exact z_up_eq⟩
  have C11 : ∀ j, M11 526 j = 0 := fun j => by rw [e11, z_up_ne (by decide), z_zero_eq]
  clear e11
  refine zp_al0 (q := 91) dX12_init_90 rfl ?_
  refine zr_bipush (q := 93) dX12_init_91 rfl (z_in_of rfl) (by decide +kernel) ?_
  refine zc_newa (z := 527) (q := 95) hS9 (by omega) (k527.2.2) (by omega) (ty := .boolean) rfl (by decide) (z_all_in (i := 116) (by decide +kernel) (by decide +kernel)) dX12_init_93 rfl rfl (by decide) (Nat.le_of_ble_eq_true rfl) (Nat.le_of_ble_eq_true rfl) (fun S10 hS10 => ?_)
  refine zc_putF (z := 517) (k := 17) 17 rfl ffX12_45 (q := 98) dX12_init_95 rfl rfl rfl (by omega) (by rw [hS10.2.1]; omega) (by rw [hS10.2.2 _ (by omega) (by omega), zK_c.1.2.2.2.1]) (by decide) (z_fit_a _ _) ?_
  refine z_gen (fun M12 e12 => ?_)
  have F12 : (∀ z, z ≠ 517 → z < 527 → M12 z = M11 z) ∧ (∀ j, j ≠ 17 → M12 517 j = M11 517 j) ∧ M12 517 17 = 527 := ⟨fun z a b => by rw [e12, z_up_ne a, z_zero_ne (by omega)], fun j a => by rw [e12, z_up_sl a, z_zero_ne (by decide)], by rw [e12]; exact z_up_eq⟩
  have C12 : ∀ j, M12 527 j = 0 := fun j => by rw [e12, z_up_ne (by decide), z_zero_eq]
  clear e12
  refine zp_al0 (q := 99) dX12_init_98 rfl ?_
  refine zr_sipush (q := 102) dX12_init_99 rfl (z_in_of rfl) (by decide +kernel) ?_
  refine zc_newa (z := 528) (q := 104) hS10 (by omega) (k528.2.2) (by omega) (ty := .int) rfl (by decide) (z_all_in (i := 117) (by decide +kernel) (by decide +kernel)) dX12_init_102 rfl rfl (by decide) (Nat.le_of_ble_eq_true rfl) (Nat.le_of_ble_eq_true rfl) (fun S11 hS11 => ?_)
  refine zc_putF (z := 517) (k := 22) 22 rfl ffX12_49 (q := 107) dX12_init_104 rfl rfl rfl (by omega) (by rw [hS11.2.1]; omega) (by rw [hS11.2.2 _ (by omega) (by omega), zK_c.1.2.2.2.1]) (by decide) (z_fit_a _ _) ?_
  refine z_gen (fun M13 e13 => ?_)
  have F13 : (∀ z, z ≠ 517 → z < 528 → M13 z = M12 z) ∧ (∀ j, j ≠ 22 → M13 517 j = M12 517 j) ∧ M13 517 22 = 528 := ⟨fun z a b => by rw [e13, z_up_ne a, z_zero_ne (by omega)], fun j a => by rw [e13, z_up_sl a, z_zero_ne (by decide)], by rw [e13]; exact z_up_eq⟩
  have C13 : ∀ j, M13 528 j = 0 := fun j => by rw [e13, z_up_ne (by decide), z_zero_eq]
  clear e13
  refine zr_return dX12_init_107 rfl ?_
  have E13 : ∀ z, z ≠ 517 → z < 100000 → M13 z = M13 z := fun z _ _ => rfl
  have E12 : ∀ z, z ≠ 517 → z < 528 → M13 z = M12 z := fun z a b => (E13 z a (by omega)).trans (F13.1 z a (by omega))
  have E11 : ∀ z, z ≠ 517 → z < 527 → M13 z = M11 z := fun z a b => (E12 z a (by omega)).trans (F12.1 z a (by omega))
  have E10 : ∀ z, z ≠ 517 → z < 526 → M13 z = M10 z := fun z a b => (E11 z a (by omega)).trans (F11.1 z a (by omega))
  have E9 : ∀ z, z ≠ 517 → z < 525 → M13 z = M9 z := fun z a b => (E10 z a (by omega)).trans (F10.1 z a (by omega))
  have E8 : ∀ z, z ≠ 517 → z < 524 → M13 z = M8 z := fun z a b => (E9 z a (by omega)).trans (F9.1 z a (by omega))
  have E7 : ∀ z, z ≠ 517 → z < 523 → M13 z = M7 z := fun z a b => (E8 z a (by omega)).trans (F8.1 z a (by omega))
  have E6 : ∀ z, z ≠ 517 → z < 523 → M13 z = M6 z := fun z a b => (E7 z a (by omega)).trans (F7.1 z a)
  have E5 : ∀ z, z ≠ 517 → z < 523 → M13 z = M5 z := fun z a b => (E6 z a (by omega)).trans (F6.1 z a)
  have E4 : ∀ z, z ≠ 517 → z < 522 → M13 z = M4 z := fun z a b => (E5 z a (by omega)).trans (F5.1 z a (by omega))
  have E3 : ∀ z, z ≠ 517 → z < 521 → M13 z = M3 z := fun z a b => (E4 z a (by omega)).trans (F4.1 z a (by omega))
  have E2 : ∀ z, z ≠ 517 → z < 520 → M13 z = M2 z := fun z a b => (E3 z a (by omega)).trans (F3.1 z a (by omega))
  have E1 : ∀ z, z ≠ 517 → z < 519 → M13 z = M1 z := fun z a b => (E2 z a (by omega)).trans (F2.1 z a (by omega))
  have E0 : ∀ z, z ≠ 517 → z < 518 → M13 z = M0 z := fun z a b => (E1 z a (by omega)).trans (F1.1 z a (by omega))
  have P0 : M13 517 0 = 518 := by rw [F13.2.1 0 (by decide), F12.2.1 0 (by decide), F11.2.1 0 (by decide), F10.2.1 0 (by decide), F9.2.1 0 (by decide), F8.2.1 0 (by decide), F7.2.1 0 (by decide), F6.2.1 0 (by decide), F5.2.1 0 (by decide), F4.2.1 0 (by decide), F3.2.1 0 (by decide), F2.2.1 0 (by decide)]; exact F1.2.2
  have P1 : M13 517 1 = 519 := by rw [F13.2.1 1 (by decide), F12.2.1 1 (by decide), F11.2.1 1 (by decide), F10.2.1 1 (by decide), F9.2.1 1 (by decide), F8.2.1 1 (by decide), F7.2.1 1 (by decide), F6.2.1 1 (by decide), F5.2.1 1 (by decide), F4.2.1 1 (by decide), F3.2.1 1 (by decide)]; exact F2.2.2
  have P2 : M13 517 2 = 520 := by rw [F13.2.1 2 (by decide), F12.2.1 2 (by decide), F11.2.1 2 (by decide), F10.2.1 2 (by decide), F9.2.1 2 (by decide), F8.2.1 2 (by decide), F7.2.1 2 (by decide), F6.2.1 2 (by decide), F5.2.1 2 (by decide), F4.2.1 2 (by decide)]; exact F3.2.2
  have P3 : M13 517 3 = 521 := by rw [F13.2.1 3 (by decide), F12.2.1 3 (by decide), F11.2.1 3 (by decide), F10.2.1 3 (by decide), F9.2.1 3 (by decide), F8.2.1 3 (by decide), F7.2.1 3 (by decide), F6.2.1 3 (by decide), F5.2.1 3 (by decide)]; exact F4.2.2
  have P8 : M13 517 8 = 522 := by rw [F13.2.1 8 (by decide), F12.2.1 8 (by decide), F11.2.1 8 (by decide), F10.2.1 8 (by decide), F9.2.1 8 (by decide), F8.2.1 8 (by decide), F7.2.1 8 (by decide), F6.2.1 8 (by decide)]; exact F5.2.2
  have P10 : M13 517 10 = -1 := by rw [F13.2.1 10 (by decide), F12.2.1 10 (by decide), F11.2.1 10 (by decide), F10.2.1 10 (by decide), F9.2.1 10 (by decide), F8.2.1 10 (by decide), F7.2.1 10 (by decide)]; exact F6.2.2
  have P11 : M13 517 11 = -1 := by rw [F13.2.1 11 (by decide), F12.2.1 11 (by decide), F11.2.1 11 (by decide), F10.2.1 11 (by decide), F9.2.1 11 (by decide), F8.2.1 11 (by decide)]; exact F7.2.2
  have P12 : M13 517 12 = 523 := by rw [F13.2.1 12 (by decide), F12.2.1 12 (by decide), F11.2.1 12 (by decide), F10.2.1 12 (by decide), F9.2.1 12 (by decide)]; exact F8.2.2
  have P14 : M13 517 14 = 524 := by rw [F13.2.1 14 (by decide), F12.2.1 14 (by decide), F11.2.1 14 (by decide), F10.2.1 14 (by decide)]; exact F9.2.2
  have P15 : M13 517 15 = 525 := by rw [F13.2.1 15 (by decide), F12.2.1 15 (by decide), F11.2.1 15 (by decide)]; exact F10.2.2
  have P16 : M13 517 16 = 526 := by rw [F13.2.1 16 (by decide), F12.2.1 16 (by decide)]; exact F11.2.2
  have P17 : M13 517 17 = 527 := by rw [F13.2.1 17 (by decide)]; exact F12.2.2
  have P22 : M13 517 22 = 528 := F13.2.2
  have P4 : M13 517 4 = 0 := by rw [F13.2.1 4 (by decide), F12.2.1 4 (by decide), F11.2.1 4 (by decide), F10.2.1 4 (by decide), F9.2.1 4 (by decide), F8.2.1 4 (by decide), F7.2.1 4 (by decide), F6.2.1 4 (by decide), F5.2.1 4 (by decide), F4.2.1 4 (by decide), F3.2.1 4 (by decide), F2.2.1 4 (by decide), F1.2.1 4 (by decide)]; exact hM 4
  have P5 : M13 517 5 = 0 := by rw [F13.2.1 5 (by decide), F12.2.1 5 (by decide), F11.2.1 5 (by decide), F10.2.1 5 (by decide), F9.2.1 5 (by decide), F8.2.1 5 (by decide), F7.2.1 5 (by decide), F6.2.1 5 (by decide), F5.2.1 5 (by decide), F4.2.1 5 (by decide), F3.2.1 5 (by decide), F2.2.1 5 (by decide), F1.2.1 5 (by decide)]; exact hM 5
  have P6 : M13 517 6 = 0 := by rw [F13.2.1 6 (by decide), F12.2.1 6 (by decide), F11.2.1 6 (by decide), F10.2.1 6 (by decide), F9.2.1 6 (by decide), F8.2.1 6 (by decide), F7.2.1 6 (by decide), F6.2.1 6 (by decide), F5.2.1 6 (by decide), F4.2.1 6 (by decide), F3.2.1 6 (by decide), F2.2.1 6 (by decide), F1.2.1 6 (by decide)]; exact hM 6
  have P9 : M13 517 9 = 0 := by rw [F13.2.1 9 (by decide), F12.2.1 9 (by decide), F11.2.1 9 (by decide), F10.2.1 9 (by decide), F9.2.1 9 (by decide), F8.2.1 9 (by decide), F7.2.1 9 (by decide), F6.2.1 9 (by decide), F5.2.1 9 (by decide), F4.2.1 9 (by decide), F3.2.1 9 (by decide), F2.2.1 9 (by decide), F1.2.1 9 (by decide)]; exact hM 9
  have P13 : M13 517 13 = 0 := by rw [F13.2.1 13 (by decide), F12.2.1 13 (by decide), F11.2.1 13 (by decide), F10.2.1 13 (by decide), F9.2.1 13 (by decide), F8.2.1 13 (by decide), F7.2.1 13 (by decide), F6.2.1 13 (by decide), F5.2.1 13 (by decide), F4.2.1 13 (by decide), F3.2.1 13 (by decide), F2.2.1 13 (by decide), F1.2.1 13 (by decide)]; exact hM 13
  refine ⟨rfl, hS11, ⟨⟨P0, P1, P2, P3, P8, P12, P14, P15, P16, P17, P22⟩, ⟨P4, P5, P6, P9, P10, P11, P13⟩, ?_⟩, fun z hz => E0 z (by omega) (by omega)⟩
  rw [E1 518 (by decide) (by decide)]
  funext j
  exact C1 j
end ZCT5
