/-! dep: 80 81 82 83 -/
/-! ===== constructors ===== -/
/-- k objects more; of the old ones only z has changed -/
def zCt9 (S S' : zS) (M M' : zM) (z : Int) (k : Nat) : Prop := S'.1 = true ∧ S'.2.1 = S.2.1 + k ∧ (∀ a, a ≤ (S.2.1 : Int) → S'.2.2 a = S.2.2 a) ∧ ∀ a, a ≤ (S.2.1 : Int) → a ≠ z → M' a = M a
/-- the shape that stands: n objects of the kinds K -/
def zShp (S : zS) (n : Nat) (K : Int → Nat × Nat) : Prop := S.1 = true ∧ S.2.1 = n ∧ ∀ a, 0 < a → a ≤ (n : Int) → S.2.2 a = K a
theorem zShp.push {S : zS} {n : Nat} {K : Int → Nat × Nat} {kd : Nat × Nat} (h : zShp S n K) (hk : K ((n : Int) + 1) = kd) : zShp (z_push S kd) (n + 1) K := by
  obtain ⟨h1, h2, h3⟩ := h
  refine ⟨h1, by show S.2.1 + 1 = n + 1; rw [h2], fun a a0 a1 => ?_⟩
  show (if a = (S.2.1 : Int) + 1 then kd else S.2.2 a) = K a
  rw [h2]
  by_cases e : a = (n : Int) + 1
  · rw [if_pos e, e, hk]
  · rw [if_neg e]
    exact h3 a a0 (by omega)
theorem z_zero_eq {M : zM} {z j : Int} : z_zero M z z j = 0 := if_pos rfl
theorem z_zero_ne {M : zM} {z a : Int} (h : a ≠ z) : z_zero M z a = M a := by
  funext b
  exact if_neg h
section ZCTR
variable {Y : zY} {S : zS} {pc q : Nat} {ls st : List zV} {M : zM} {bc bs : Nat} {Q : zV → zS → zM → Prop}
theorem zr_newq2 {own : String} {idx nn kd c : Nat} {n : Int} (hkd : (kd = 15 ∧ c = 0) ∨ (kd = 16 ∧ c = 1) ∨ (kd = 17 ∧ c = 6)) (hlink : ∀ r, z_cl[c]? = some r → Cond.classLink own idx r.1 ∈ z_all) (hover : ∀ r, z_cl[c]? = some r → Cond.arrayOver (.object r.1) ∈ lw_tbl) (hd : decode Y.2.1 pc = .ok (.anewarray idx, 3)) (ho : Y.1.cls = own) (hq : pc + 3 = q) (hn : n = (nn : Int)) (hnn : nn ≤ 100000) (hS1 : S.1 = true) (hb1 : 1 ≤ bc) (hb2 : nn ≤ bs) (hin : z_in ((S.2.1 : Int) + 1))
    (kk : z_Ex Y (z_push S (kd, nn)) q ls ((1, (S.2.1 : Int) + 1) :: st) (z_zero M ((S.2.1 : Int) + 1)) (bc - 1) (bs - nn) Q) : z_Ex Y S pc ls ((0, n) :: st) M bc bs Q := by
  intro C p l e s m args below meth cc H locs cells slots lsA F0' St
  obtain ⟨hx, hb, hr, hml, hown, hts, hnm, hlk, hex, hst, hbase, hK, hKC, hCX⟩ := id F0'
  obtain ⟨hl, hP, hS, hsz, hokM, hokl, hoks, hc1, hc2⟩ := id St
  subst hq; subst hn; subst ho
  have hsz := hsz hS1
  have hrc : cells + 1 ≤ (z_rm Y).cells := by show cells + 1 ≤ Y.2.2.2.2.2.1; omega
  have hrs : slots + nn ≤ (z_rm Y).slots := by show slots + nn ≤ Y.2.2.2.2.2.2.1; omega
  have hni : z_in (nn : Int) := ⟨by omega, by omega⟩
  obtain ⟨r, hr0⟩ : ∃ r, z_cl[c]? = some r := by rcases hkd with ⟨-, rfl⟩ | ⟨-, rfl⟩ | ⟨-, rfl⟩ <;> exact ⟨_, rfl⟩
  have ecl : (Int32.ofInt (nn : Int)).toNatClampNeg = nn := by rw [zn_clamp hni]; omega
  refine W.anew hx hb hown (hts _ (hlink r hr0)) (show (Cond.arrayOver (.object r.1)).before args s = true from hKC.1.1 _ (hover r hr0) rfl) rfl hd rfl (by rw [zn_lt0 hni]; omega) (by rw [ecl]; omega) hrc (by rw [ecl]; exact hrs) fun cA kA comp f1 f2 f3 f4 => ?_
  rw [ecl]
  generalize hH1 : H.push ({ cls := cA, slots := Array.replicate nn .null, vm := .none } : Cell) = H1
  have z1 : H1.size = H.size + 1 := by rw [← hH1, Array.size_push]
  have g1 : H1[H.size]? = some (arrV cA nn (fun _ => .null)) := by rw [← hH1, Array.getElem?_push_size, ← arrV_new]
  have o1 : ∀ q : Nat, q < H.size → H1[q]? = H[q]? := fun q hq => by rw [← hH1, Array.getElem?_push, if_neg (Nat.ne_of_lt hq)]
  obtain ⟨a1, a2, a3⟩ := z_pushP (kd := (kd, nn)) hP hS hsz z1 o1 (by
    rw [hsz] at g1
    rcases hkd with ⟨rfl, rfl⟩ | ⟨rfl, rfl⟩ | ⟨rfl, rfl⟩ <;> cases hr0
    · obtain ⟨_, _, _, _, _, u4⟩ := (hK.2 5 _ rfl).2
      cases Option.some.inj (f1.symm.trans u4); exact g1
    · obtain ⟨_, _, _, _, _, u4⟩ := (hK.2 6 _ rfl).2
      cases Option.some.inj (f1.symm.trans u4); exact g1
    · obtain ⟨_, _, _, _, _, u4⟩ := (hK.2 7 _ rfl).2
      cases Option.some.inj (f1.symm.trans u4); exact g1)
  rw [hsz]
  have e9 : (Value.ref (C.1 + S.2.1)) = z_cv C (1, (S.2.1 : Int) + 1) := by
    show _ = va_rf (z_rf C ((S.2.1 : Int) + 1))
    rw [z_rf_pos (by omega)]
    congr 1
  rw [e9]
  refine kk C p l e s m args below meth cc H1 locs (cells + 1) (slots + nn) lsA F0' ⟨hl, a1, a2, fun _ => a3, z_okM_push hokM, hokl, z_okc (fun _ => hin) (z_ok1 hoks).2, ?_, ?_⟩
  · omega
  · omega
/-- the same, by the shape alone -/
theorem zc_new {own : String} {idx c k n : Nat} {K : Int → Nat × Nat} {z : Int} (hS : zShp S n K) (hz : z = (n : Int) + 1) (hK : K z = (c, 0)) (hn : n < 1000) (F : z_New own idx c k) (hd : decode Y.2.1 pc = .ok (.new idx, 3)) (ho : Y.1.cls = own) (hq : pc + 3 = q) (hb1 : 1 ≤ bc) (hb2 : k ≤ bs)
    (kk : ∀ S', zShp S' (n + 1) K → z_Ex Y S' q ls ((1, z) :: st) (z_zero M z) (bc - 1) (bs - k) Q) : z_Ex Y S pc ls st M bc bs Q := by
  have hz2 : z = (S.2.1 : Int) + 1 := by rw [hS.2.1]; exact hz
  refine zr_new F hd ho hq hS.1 hb1 hb2 (by rw [← hz2]; unfold z_in; omega) ?_
  rw [← hz2]
  exact kk _ (hS.push (by rw [← hz]; exact hK))
theorem zc_newa {at9 : ArrayType} {ty : FieldType} {x : Int} {nn kd n : Nat} {K : Int → Nat × Nat} {z : Int} (hS : zShp S n K) (hz : z = (n : Int) + 1) (hK : K z = (kd, nn)) (hn1 : n < 1000) (hty : newarray.typeOf at9 = ty) (hkd : (ty = .int ∧ kd = 10) ∨ (ty = .boolean ∧ kd = 11) ∨ (ty = .char ∧ kd = 12) ∨ (ty = .long ∧ kd = 13) ∨ (ty = .double ∧ kd = 14)) (harr : Cond.arrayClass ty ∈ z_all) (hd : decode Y.2.1 pc = .ok (.newarray at9, 2)) (hq : pc + 2 = q) (hn : x = (nn : Int)) (hnn : nn ≤ 100000) (hb1 : 1 ≤ bc) (hb2 : nn ≤ bs)
    (kk : ∀ S', zShp S' (n + 1) K → z_Ex Y S' q ls ((1, z) :: st) (z_zero M z) (bc - 1) (bs - nn) Q) : z_Ex Y S pc ls ((0, x) :: st) M bc bs Q := by
  have hz2 : z = (S.2.1 : Int) + 1 := by rw [hS.2.1]; exact hz
  refine zr_newa hty hkd harr hd hq hn hnn hS.1 hb1 hb2 (by rw [← hz2]; unfold z_in; omega) ?_
  rw [← hz2]
  exact kk _ (hS.push (by rw [← hz]; exact hK))
theorem zc_newq {own : String} {idx nn kd c n : Nat} {x : Int} {K : Int → Nat × Nat} {z : Int} (hS : zShp S n K) (hz : z = (n : Int) + 1) (hK : K z = (kd, nn)) (hn1 : n < 1000) (hkd : (kd = 15 ∧ c = 0) ∨ (kd = 16 ∧ c = 1) ∨ (kd = 17 ∧ c = 6)) (hlink : ∀ r, z_cl[c]? = some r → Cond.classLink own idx r.1 ∈ z_all) (hover : ∀ r, z_cl[c]? = some r → Cond.arrayOver (.object r.1) ∈ lw_tbl) (hd : decode Y.2.1 pc = .ok (.anewarray idx, 3)) (ho : Y.1.cls = own) (hq : pc + 3 = q) (hn : x = (nn : Int)) (hnn : nn ≤ 100000) (hb1 : 1 ≤ bc) (hb2 : nn ≤ bs)
    (kk : ∀ S', zShp S' (n + 1) K → z_Ex Y S' q ls ((1, z) :: st) (z_zero M z) (bc - 1) (bs - nn) Q) : z_Ex Y S pc ls ((0, x) :: st) M bc bs Q := by
  have hz2 : z = (S.2.1 : Int) + 1 := by rw [hS.2.1]; exact hz
  refine zr_newq2 hkd hlink hover hd ho hq hn hnn hS.1 hb1 hb2 (by rw [← hz2]; unfold z_in; omega) ?_
  rw [← hz2]
  exact kk _ (hS.push (by rw [← hz]; exact hK))
end ZCTR
section ZCT2
variable {S : zS} {M : zM} {z : Int} {n : Nat}
def mB (M : zM) (z : Int) : zM := z_up (z_zero M (z + 1)) z 2 (z + 1)
theorem c_X2_init (hS : zShp S n zK) (hz : z = n) (h0 : 0 < z) (hn : n < 990) (k0 : zK z = (1, 0)) (k1 : zK (z + 1) = (10, 5)) : z_Call mX2_init S [(1, z)] M (fun r S' M' => r = (9, 0) ∧ zShp S' (n + 1) zK ∧ M' = mB M z) := by
  refine z_enter (k := 0) rfl rfl rfl ?_
  refine zp_al0 (q := 1) dX2_init_0 rfl ?_
  refine zr_objInit (q := 4) dX2_init_1 rfl (by omega) (z_all_in (i := 97) (by decide +kernel) (by decide +kernel)) (z_all_in (i := 83) (by decide +kernel) (by decide +kernel)) (z_all_in (i := 84) (by decide +kernel) (by decide +kernel)) (Nat.le_of_ble_eq_true rfl) rfl (Nat.le_of_ble_eq_true rfl) ?_
  refine zp_al0 (q := 5) dX2_init_4 rfl ?_
  refine zr_iconst (q := 6) dX2_init_5 rfl (z_in_of rfl) ?_
  refine zc_newa (z := z + 1) (q := 8) hS (by omega) (k1) (by omega) (ty := .int) rfl (by decide) (z_all_in (i := 117) (by decide +kernel) (by decide +kernel)) dX2_init_6 rfl rfl (by decide) (Nat.le_of_ble_eq_true rfl) (Nat.le_of_ble_eq_true rfl) (fun S1 hS1 => ?_)
  refine zr_putF (z := z) (k := 2) ffX2_9 (q := 11) dX2_init_8 rfl rfl rfl (by omega) (by rw [hS1.2.1]; omega) (by rw [hS1.2.2 _ (by omega) (by omega), k0]) (by decide) (z_fit_a _ _) ?_
  refine zr_return dX2_init_11 rfl ?_
  exact ⟨rfl, hS1, rfl⟩
def mT (M : zM) (z : Int) : zM := z_up (z_up (z_zero M (z + 1)) z 0 (z + 1)) z 1 0
theorem c_X9_init (hS : zShp S n zK) (hz : z = n) (h0 : 0 < z) (hn : n < 990) (k0 : zK z = (7, 0)) (k1 : zK (z + 1) = (12, 60)) : z_Call mX9_init S [(1, z)] M (fun r S' M' => r = (9, 0) ∧ zShp S' (n + 1) zK ∧ M' = mT M z) := by
  refine z_enter (k := 0) rfl rfl rfl ?_
  refine zp_al0 (q := 1) dX9_init_0 rfl ?_
  refine zr_objInit (q := 4) dX9_init_1 rfl (by omega) (z_all_in (i := 251) (by decide +kernel) (by decide +kernel)) (z_all_in (i := 83) (by decide +kernel) (by decide +kernel)) (z_all_in (i := 84) (by decide +kernel) (by decide +kernel)) (Nat.le_of_ble_eq_true rfl) rfl (Nat.le_of_ble_eq_true rfl) ?_
  refine zp_al0 (q := 5) dX9_init_4 rfl ?_
  refine zr_bipush (q := 7) dX9_init_5 rfl (z_in_of rfl) (by decide +kernel) ?_
  refine zc_newa (z := z + 1) (q := 9) hS (by omega) (k1) (by omega) (ty := .char) rfl (by decide) (z_all_in (i := 262) (by decide +kernel) (by decide +kernel)) dX9_init_7 rfl rfl (by decide) (Nat.le_of_ble_eq_true rfl) (Nat.le_of_ble_eq_true rfl) (fun S1 hS1 => ?_)
  refine zr_putF (z := z) (k := 0) ffX9_9 (q := 12) dX9_init_9 rfl rfl rfl (by omega) (by rw [hS1.2.1]; omega) (by rw [hS1.2.2 _ (by omega) (by omega), k0]) (by decide) (z_fit_a _ _) ?_
  refine zp_al0 (q := 13) dX9_init_12 rfl ?_
  refine zr_iconst (q := 14) dX9_init_13 rfl (z_in_of rfl) ?_
  refine zr_putf (z := z) (k := 1) fpX9_15 (q := 17) dX9_init_14 rfl rfl (by omega) (by rw [hS1.2.1]; omega) (by rw [hS1.2.2 _ (by omega) (by omega), k0]) (by decide) (z_fit_i _) ?_
  refine zr_return dX9_init_17 rfl ?_
  exact ⟨rfl, hS1, rfl⟩
def mR (M : zM) (z : Int) : zM := z_up (z_up (z_up (z_up (z_up (z_zero M (z + 1)) z 0 (z + 1)) z 1 0) z 2 (-1)) z 3 (-1)) z 4 0
theorem c_X8_init (hS : zShp S n zK) (hz : z = n) (h0 : 0 < z) (hn : n < 990) (k0 : zK z = (6, 0)) (k1 : zK (z + 1) = (10, 8)) : z_Call mX8_init S [(1, z)] M (fun r S' M' => r = (9, 0) ∧ zShp S' (n + 1) zK ∧ M' = mR M z) := by
  refine z_enter (k := 0) rfl rfl rfl ?_
  refine zp_al0 (q := 1) dX8_init_0 rfl ?_
  refine zr_objInit (q := 4) dX8_init_1 rfl (by omega) (z_all_in (i := 186) (by decide +kernel) (by decide +kernel)) (z_all_in (i := 83) (by decide +kernel) (by decide +kernel)) (z_all_in (i := 84) (by decide +kernel) (by decide +kernel)) (Nat.le_of_ble_eq_true rfl) rfl (Nat.le_of_ble_eq_true rfl) ?_
  refine zp_al0 (q := 5) dX8_init_4 rfl ?_
  refine zr_bipush (q := 7) dX8_init_5 rfl (z_in_of rfl) (by decide +kernel) ?_
  refine zc_newa (z := z + 1) (q := 9) hS (by omega) (k1) (by omega) (ty := .int) rfl (by decide) (z_all_in (i := 117) (by decide +kernel) (by decide +kernel)) dX8_init_7 rfl rfl (by decide) (Nat.le_of_ble_eq_true rfl) (Nat.le_of_ble_eq_true rfl) (fun S1 hS1 => ?_)
  refine zr_putF (z := z) (k := 0) ffX8_9 (q := 12) dX8_init_9 rfl rfl rfl (by omega) (by rw [hS1.2.1]; omega) (by rw [hS1.2.2 _ (by omega) (by omega), k0]) (by decide) (z_fit_a _ _) ?_
  refine zp_al0 (q := 13) dX8_init_12 rfl ?_
  refine zr_iconst (q := 14) dX8_init_13 rfl (z_in_of rfl) ?_
  refine zr_putf (z := z) (k := 1) fpX8_15 (q := 17) dX8_init_14 rfl rfl (by omega) (by rw [hS1.2.1]; omega) (by rw [hS1.2.2 _ (by omega) (by omega), k0]) (by decide) (z_fit_i _) ?_
  refine zp_al0 (q := 18) dX8_init_17 rfl ?_
  refine zr_iconst (q := 19) dX8_init_18 rfl (z_in_of rfl) ?_
  refine zr_putf (z := z) (k := 2) fpX8_19 (q := 22) dX8_init_19 rfl rfl (by omega) (by rw [hS1.2.1]; omega) (by rw [hS1.2.2 _ (by omega) (by omega), k0]) (by decide) (z_fit_i _) ?_
  refine zp_al0 (q := 23) dX8_init_22 rfl ?_
  refine zr_iconst (q := 24) dX8_init_23 rfl (z_in_of rfl) ?_
  refine zr_putf (z := z) (k := 3) fpX8_22 (q := 27) dX8_init_24 rfl rfl (by omega) (by rw [hS1.2.1]; omega) (by rw [hS1.2.2 _ (by omega) (by omega), k0]) (by decide) (z_fit_i _) ?_
  refine zp_al0 (q := 28) dX8_init_27 rfl ?_
  refine zr_iconst (q := 29) dX8_init_28 rfl (z_in_of rfl) ?_
  refine zr_putf (z := z) (k := 4) fpX8_25 (q := 32) dX8_init_29 rfl rfl (by omega) (by rw [hS1.2.1]; omega) (by rw [hS1.2.2 _ (by omega) (by omega), k0]) (by decide) (z_fit_z (by decide)) ?_
  refine zr_return dX8_init_32 rfl ?_
  exact ⟨rfl, hS1, rfl⟩
def mD (M : zM) (z : Int) : zM := z_up (z_up (z_zero (z_up (z_up (z_up (mT (z_zero M (z + 1)) (z + 1)) z 0 (z + 1)) z 1 0) z 2 (-11)) (z + 3)) z 3 (z + 3)) z 4 0
theorem c_X7_init (hS : zShp S n zK) (hz : z = n) (h0 : 0 < z) (hn : n < 980) (k0 : zK z = (5, 0)) (k1 : zK (z + 1) = (7, 0)) (k2 : zK (z + 1 + 1) = (12, 60)) (k3 : zK (z + 3) = (10, 30)) : z_Call mX7_init S [(1, z)] M (fun r S' M' => r = (9, 0) ∧ zShp S' (n + 1 + 1 + 1) zK ∧ M' = mD M z) := by
  refine z_enter (k := 0) rfl rfl rfl ?_
  refine zp_al0 (q := 1) dX7_init_0 rfl ?_
  refine zr_objInit (q := 4) dX7_init_1 rfl (by omega) (z_all_in (i := 268) (by decide +kernel) (by decide +kernel)) (z_all_in (i := 83) (by decide +kernel) (by decide +kernel)) (z_all_in (i := 84) (by decide +kernel) (by decide +kernel)) (Nat.le_of_ble_eq_true rfl) rfl (Nat.le_of_ble_eq_true rfl) ?_
  refine zp_al0 (q := 5) dX7_init_4 rfl ?_
  refine zc_new (z := z + 1) (q := 8) hS (by omega) (k1) (by omega) nwX7_9 dX7_init_5 rfl rfl (Nat.le_of_ble_eq_true rfl) (Nat.le_of_ble_eq_true rfl) (fun S1 hS1 => ?_)
  refine zr_dup (q := 9) dX7_init_8 rfl (Or.inr rfl) ?_
  refine zr_ctorN (host := "WindElection") (as := []) (c_X9_init (z := z + 1) hS1 (by omega) (by omega) (by omega) k1 k2) (fun k S9 M9 hP => (z_no hP.1 rfl).elim) mtX9_init rfl rfl wiX9_init (List.mem_of_getElem? (i := 270) (by decide +kernel)) (q := 12) dX7_init_9 rfl rfl ⟨Nat.le_of_ble_eq_true rfl, Nat.le_of_ble_eq_true rfl, rfl⟩ (by omega) rfl (Nat.le_of_ble_eq_true rfl) (Nat.le_of_ble_eq_true rfl) (Nat.le_of_ble_eq_true rfl) (fun r S2 M9 h8 hP => ?_)
  obtain ⟨rfl, hS2, h9⟩ := hP
  subst M9
  refine zr_putF (z := z) (k := 0) ffX7_12 (q := 15) dX7_init_12 rfl rfl rfl (by omega) (by rw [hS2.2.1]; omega) (by rw [hS2.2.2 _ (by omega) (by omega), k0]) (by decide) (z_fit_o _ _) ?_
  refine zp_al0 (q := 16) dX7_init_15 rfl ?_
  refine zr_iconst (q := 17) dX7_init_16 rfl (z_in_of rfl) ?_
  refine zr_putf (z := z) (k := 1) fpX7_18 (q := 20) dX7_init_17 rfl rfl (by omega) (by rw [hS2.2.1]; omega) (by rw [hS2.2.2 _ (by omega) (by omega), k0]) (by decide) (z_fit_i _) ?_
  refine zp_al0 (q := 21) dX7_init_20 rfl ?_
  refine zr_gets (v := (1, -11)) (q := 24) (Cn := "WindElection$Word") (n := "WIND") (d := "LWindElection$Word;") (fun C s h => zs_Wd 0 (by decide) h) (fun _ => z_in_of rfl) (z_all_in (i := 271) (by decide +kernel) (by decide +kernel)) dX7_init_21 rfl ?_
  refine zr_putf (z := z) (k := 2) fpX7_28 (q := 27) dX7_init_24 rfl rfl (by omega) (by rw [hS2.2.1]; omega) (by rw [hS2.2.2 _ (by omega) (by omega), k0]) (by decide) (z_fit_o _ _) ?_
  refine zp_al0 (q := 28) dX7_init_27 rfl ?_
  refine zr_bipush (q := 30) dX7_init_28 rfl (z_in_of rfl) (by decide +kernel) ?_
  refine zc_newa (z := z + 3) (q := 32) hS2 (by omega) (k3) (by omega) (ty := .int) rfl (by decide) (z_all_in (i := 117) (by decide +kernel) (by decide +kernel)) dX7_init_30 rfl rfl (by decide) (Nat.le_of_ble_eq_true rfl) (Nat.le_of_ble_eq_true rfl) (fun S3 hS3 => ?_)
  refine zr_putF (z := z) (k := 3) ffX7_31 (q := 35) dX7_init_32 rfl rfl rfl (by omega) (by rw [hS3.2.1]; omega) (by rw [hS3.2.2 _ (by omega) (by omega), k0]) (by decide) (z_fit_a _ _) ?_
  refine zp_al0 (q := 36) dX7_init_35 rfl ?_
  refine zr_iconst (q := 37) dX7_init_36 rfl (z_in_of rfl) ?_
  refine zr_putf (z := z) (k := 4) fpX7_35 (q := 40) dX7_init_37 rfl rfl (by omega) (by rw [hS3.2.1]; omega) (by rw [hS3.2.2 _ (by omega) (by omega), k0]) (by decide) (z_fit_i _) ?_
  refine zr_return dX7_init_40 rfl ?_
  exact ⟨rfl, hS3, rfl⟩
def mP (M : zM) (z : Int) : zM := z_up (mR (z_zero (z_up (z_zero M (z + 1)) z 0 (z + 1)) (z + 2)) (z + 2)) z 1 (z + 2)
theorem c_X6_init (hS : zShp S n zK) (hz : z = n) (h0 : 0 < z) (hn : n < 980) (k0 : zK z = (4, 0)) (k1 : zK (z + 1) = (10, 20)) (k2 : zK (z + 2) = (6, 0)) (k3 : zK (z + 2 + 1) = (10, 8)) : z_Call mX6_init S [(1, z)] M (fun r S' M' => r = (9, 0) ∧ zShp S' (n + 1 + 1 + 1) zK ∧ M' = mP M z) := by
  refine z_enter (k := 0) rfl rfl rfl ?_
  refine zp_al0 (q := 1) dX6_init_0 rfl ?_
  refine zr_objInit (q := 4) dX6_init_1 rfl (by omega) (z_all_in (i := 236) (by decide +kernel) (by decide +kernel)) (z_all_in (i := 83) (by decide +kernel) (by decide +kernel)) (z_all_in (i := 84) (by decide +kernel) (by decide +kernel)) (Nat.le_of_ble_eq_true rfl) rfl (Nat.le_of_ble_eq_true rfl) ?_
  refine zp_al0 (q := 5) dX6_init_4 rfl ?_
  refine zr_bipush (q := 7) dX6_init_5 rfl (z_in_of rfl) (by decide +kernel) ?_
  refine zc_newa (z := z + 1) (q := 9) hS (by omega) (k1) (by omega) (ty := .int) rfl (by decide) (z_all_in (i := 117) (by decide +kernel) (by decide +kernel)) dX6_init_7 rfl rfl (by decide) (Nat.le_of_ble_eq_true rfl) (Nat.le_of_ble_eq_true rfl) (fun S1 hS1 => ?_)
  refine zr_putF (z := z) (k := 0) ffX6_9 (q := 12) dX6_init_9 rfl rfl rfl (by omega) (by rw [hS1.2.1]; omega) (by rw [hS1.2.2 _ (by omega) (by omega), k0]) (by decide) (z_fit_a _ _) ?_
  refine zp_al0 (q := 13) dX6_init_12 rfl ?_
  refine zc_new (z := z + 2) (q := 16) hS1 (by omega) (k2) (by omega) nwX6_15 dX6_init_13 rfl rfl (Nat.le_of_ble_eq_true rfl) (Nat.le_of_ble_eq_true rfl) (fun S2 hS2 => ?_)
  refine zr_dup (q := 17) dX6_init_16 rfl (Or.inr rfl) ?_
  refine zr_ctorN (host := "WindElection") (as := []) (c_X8_init (z := z + 2) hS2 (by omega) (by omega) (by omega) k2 k3) (fun k S9 M9 hP => (z_no hP.1 rfl).elim) mtX8_init rfl rfl wiX8_init (List.mem_of_getElem? (i := 238) (by decide +kernel)) (q := 20) dX6_init_17 rfl rfl ⟨Nat.le_of_ble_eq_true rfl, Nat.le_of_ble_eq_true rfl, rfl⟩ (by omega) rfl (Nat.le_of_ble_eq_true rfl) (Nat.le_of_ble_eq_true rfl) (Nat.le_of_ble_eq_true rfl) (fun r S3 M9 h8 hP => ?_)
  obtain ⟨rfl, hS3, h9⟩ := hP
  subst M9
  refine zr_putF (z := z) (k := 1) ffX6_18 (q := 23) dX6_init_20 rfl rfl rfl (by omega) (by rw [hS3.2.1]; omega) (by rw [hS3.2.2 _ (by omega) (by omega), k0]) (by decide) (z_fit_o _ _) ?_
  refine zr_return dX6_init_23 rfl ?_
  exact ⟨rfl, hS3, rfl⟩
def mA0 (M : zM) (a : Int) : zM := z_up (z_up (z_zero (z_up (z_up (z_up (z_zero (z_up (z_zero (z_up M a 0 0) (a + 1)) a 1 (a + 1)) (a + 2)) a 2 (a + 2)) a 3 0) a 4 0) (a + 3)) a 5 (a + 3)) a 6 0
def mAk (M : zM) (a : Int) : Nat → zM
  | 0 => mA0 M a
  | i + 1 => z_up (mB (z_zero (mAk M a i) (a + 4 + 2 * i)) (a + 4 + 2 * i)) (a + 3) i (a + 4 + 2 * i)
def mA (M : zM) (a : Int) : zM := mAk M a 20
theorem mAk_5 {a : Int} : ∀ i : Nat, mAk M a i a 5 = a + 3 := by
  intro i
  induction i with
  | zero =>
    show z_up (z_up (z_zero _ (a + 3)) a 5 (a + 3)) a 6 0 a 5 = a + 3
    unfold z_up
    rw [if_neg (by omega), if_pos ⟨rfl, rfl⟩]
  | succ i ih =>
    show z_up (z_up (z_zero (z_zero (mAk M a i) (a + 4 + 2 * i)) (a + 4 + 2 * i + 1)) (a + 4 + 2 * i) 2 _) (a + 3) i _ a 5 = a + 3
    unfold z_up z_zero
    rw [if_neg (by omega), if_neg (by omega), if_neg (by omega), if_neg (by omega)]
    exact ih
end ZCT2
