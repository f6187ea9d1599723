/-! dep: 70 -/
/-! ===== strings and rows that are constants ===== -/
theorem zok_r {x : Int} (h : -1000 ≤ x ∧ x ≤ 0) : z_ok (1, x) := fun _ => by
  show z_in x
  unfold z_in
  omega
section ZS1
variable {Y : zY} {S : zS} {pc q : Nat} {ls st : List zV} {M : zM} {bc bs : Nat} {Q : zV → zS → zM → Prop}
/-- a method of a constant's own class -/
theorem zr_callK {Y' : zY} {P : zV → zS → zM → Prop} {as : List zV} {z : Int} {idx n k : Nat} (hz : z = -(k : Int)) (hk : 0 < k) (hO : ∀ (C : zC) (s : State), z_KH C s s.heap → va_O Y'.1.cls (C.2.1 k) (z_A C) s s.heap) (hc : z_Call Y' S ((1, z) :: as) M P) (hY : z_Mth Y' n) (hi : Cond.instanceMethod Y'.1 ∈ z_all) (hsel : Cond.selects Y'.1.cls Y'.1 Y'.1 ∈ z_all) (hl9 : Cond.methodLink Y.1.cls idx Y'.1 ∈ z_all)
    (hd : decode Y.2.1 pc = .ok (.invokevirtual idx, 3)) (hq : pc + 3 = q) (hn : as.length = n) (hrm : z_rmle Y Y') (hst : z_one st = true) (hsl : st.length ≤ 8) (hmc : Y'.2.2.2.2.2.1 ≤ bc) (hms : Y'.2.2.2.2.2.2.1 ≤ bs)
    (kn : ∀ r S' M', r.1 ≠ 8 → P r S' M' → z_Ex Y S' q ls (z_ps r st) M' (bc - Y'.2.2.2.2.2.1) (bs - Y'.2.2.2.2.2.2.1) Q) (kx : ∀ k S' M', P (8, k) S' M' → Q (8, k) S' M') : z_Ex Y S pc ls (as.reverse ++ (1, z) :: st) M bc bs Q := by
  intro C p l e s m args below meth cc H locs cells slots lsA F St
  obtain ⟨hx, hb, hr9, hml, hown, hts, hnm, hlk, hex, hst9, hbase, hK, hKC, hCX⟩ := id F
  obtain ⟨hl, hP, hS, hsz, hokM, hokl, hoks, hc1, hc2⟩ := id St
  subst hq
  subst hz
  have hrecv : ∃ cell : Cell, H[C.2.1 k]? = some cell ∧ cell.vm.isStatics = false ∧ s.vm.findClass Y'.1.cls = some cell.cls := by
    obtain ⟨cell, h1, h2, h3, -⟩ := (hO C s hKC.2).kept hS.2.1
    exact ⟨cell, h1, h2, h3⟩
  have hoka : ∀ v ∈ (1, -(k : Int)) :: as, z_ok v := by
    intro v hv
    rcases List.mem_cons.mp hv with h | h
    · exact hoks v (by rw [h]; exact List.mem_append_right _ List.mem_cons_self)
    · exact hoks v (List.mem_append_left _ (List.mem_reverse.mpr h))
  have hM := hc C l hst9 hoka
  have hok9 : ∀ v ∈ st, z_ok v := fun v hv => hoks v (List.mem_append_right _ (List.mem_cons_of_mem _ hv))
  have estk : (as.reverse ++ (1, -(k : Int)) :: st).map (z_cv C) = (as.map (z_cv C)).reverse ++ .ref (C.2.1 k) :: st.map (z_cv C) := by
    rw [List.map_append, List.map_reverse, List.map_cons, z_cv_neg hk]
  have ea : ((1, -(k : Int)) :: as).map (z_cv C) = Value.ref (C.2.1 k) :: as.map (z_cv C) := by
    rw [List.map_cons, z_cv_neg hk]
  have hpre := z_pre (as := (1, -(k : Int)) :: as) hP hS hsz hokM hbase hK hKC
  rw [estk]
  rw [ea] at hM hpre
  have cw : CallW (z_rm Y) s args Y.1.cls Y'.1.cls idx Y'.1 Y'.2.1 Y'.2.2.1 Y'.2.2.2.1 (z_wsY Y') (z_rm Y') Y'.2.2.2.2.2.1 Y'.2.2.2.2.2.2.1 n :=
    ⟨callB_of n hts (z_goodY hY.1) rfl rfl rfl (hts _ hY.2.1) (hts _ hl9) hY.2.2 ⟨hrm.1, hrm.2.1⟩, hts _ hi, hts _ hsel⟩
  have hr := vx_runV (H := H) (locs := locs) (cells := cells) (slots := slots) (e := e) (below := below) (meth := meth) (rest := st.map (z_cv C)) (g := F0 m pc lsA ((as.map (z_cv C)).reverse ++ .ref (C.2.1 k) :: st.map (z_cv C))) ⟨hx, hb, hml, hown, hts⟩ hM cw ⟨z_B_blind, hrecv, hpre⟩ rfl (by rw [List.length_map]; exact hn) hl.1 rfl (lv_room (by rw [z_one_sum hst]; exact hsl)) hd ⟨(by show cells + _ ≤ Y.2.2.2.2.2.1; omega), (by show slots + _ ≤ Y.2.2.2.2.2.2.1; omega)⟩
  exact z_behind (st := st) F ⟨hl, hP, hS, hsz, hokM, hokl, hok9, hc1, hc2⟩ hrm.2.2 hmc hms hr kn kx
theorem zp_callK0 {Y' : zY} {P : zV → zS → zM → Prop} {z : Int} {idx k : Nat} (hz : z = -(k : Int)) (hk : 0 < k) (hO : ∀ (C : zC) (s : State), z_KH C s s.heap → va_O Y'.1.cls (C.2.1 k) (z_A C) s s.heap) (hc : z_Call Y' S [(1, z)] M P) (hY : z_Mth Y' 0) (hi : Cond.instanceMethod Y'.1 ∈ z_all) (hsel : Cond.selects Y'.1.cls Y'.1 Y'.1 ∈ z_all) (hl9 : Cond.methodLink Y.1.cls idx Y'.1 ∈ z_all)
    (hd : decode Y.2.1 pc = .ok (.invokevirtual idx, 3)) (hq : pc + 3 = q) (hrm : (Nat.ble (Y'.2.2.2.2.1.1 + 1) Y.2.2.2.2.1.1 && Nat.ble (8 + (Y'.2.2.1 + 11) + Y'.2.2.2.2.1.2) Y.2.2.2.2.1.2 && Y.2.2.2.2.2.2.2.1.isEmpty) = true) (hst : z_one st = true) (hsl : Nat.ble st.length 8 = true) (hmc : (Nat.ble Y'.2.2.2.2.2.1 bc && Nat.ble Y'.2.2.2.2.2.2.1 bs) = true)
    (kn : ∀ r S' M', r.1 ≠ 8 → P r S' M' → z_Ex Y S' q ls (z_ps r st) M' (bc - Y'.2.2.2.2.2.1) (bs - Y'.2.2.2.2.2.2.1) Q) (kx : ∀ k S' M', P (8, k) S' M' → Q (8, k) S' M') : z_Ex Y S pc ls ((1, z) :: st) M bc bs Q := by
  simp only [Bool.and_eq_true] at hrm hmc
  exact zr_callK (as := []) hz hk hO hc hY hi hsel hl9 hd hq rfl ⟨Nat.le_of_ble_eq_true hrm.1.1, Nat.le_of_ble_eq_true hrm.1.2, List.isEmpty_iff.mp hrm.2⟩ hst (Nat.le_of_ble_eq_true hsl) (Nat.le_of_ble_eq_true hmc.1) (Nat.le_of_ble_eq_true hmc.2) kn kx
theorem zp_callK1 {Y' : zY} {P : zV → zS → zM → Prop} {b0 : zV} {z : Int} {idx k : Nat} (hz : z = -(k : Int)) (hk : 0 < k) (hO : ∀ (C : zC) (s : State), z_KH C s s.heap → va_O Y'.1.cls (C.2.1 k) (z_A C) s s.heap) (hc : z_Call Y' S [(1, z), b0] M P) (hY : z_Mth Y' 1) (hi : Cond.instanceMethod Y'.1 ∈ z_all) (hsel : Cond.selects Y'.1.cls Y'.1 Y'.1 ∈ z_all) (hl9 : Cond.methodLink Y.1.cls idx Y'.1 ∈ z_all)
    (hd : decode Y.2.1 pc = .ok (.invokevirtual idx, 3)) (hq : pc + 3 = q) (hrm : (Nat.ble (Y'.2.2.2.2.1.1 + 1) Y.2.2.2.2.1.1 && Nat.ble (8 + (Y'.2.2.1 + 11) + Y'.2.2.2.2.1.2) Y.2.2.2.2.1.2 && Y.2.2.2.2.2.2.2.1.isEmpty) = true) (hst : z_one st = true) (hsl : Nat.ble st.length 8 = true) (hmc : (Nat.ble Y'.2.2.2.2.2.1 bc && Nat.ble Y'.2.2.2.2.2.2.1 bs) = true)
    (kn : ∀ r S' M', r.1 ≠ 8 → P r S' M' → z_Ex Y S' q ls (z_ps r st) M' (bc - Y'.2.2.2.2.2.1) (bs - Y'.2.2.2.2.2.2.1) Q) (kx : ∀ k S' M', P (8, k) S' M' → Q (8, k) S' M') : z_Ex Y S pc ls (b0 :: (1, z) :: st) M bc bs Q := by
  simp only [Bool.and_eq_true] at hrm hmc
  exact zr_callK (as := [b0]) hz hk hO hc hY hi hsel hl9 hd hq rfl ⟨Nat.le_of_ble_eq_true hrm.1.1, Nat.le_of_ble_eq_true hrm.1.2, List.isEmpty_iff.mp hrm.2⟩ hst (Nat.le_of_ble_eq_true hsl) (Nat.le_of_ble_eq_true hmc.1) (Nat.le_of_ble_eq_true hmc.2) kn kx
/-- rows of constants: length, a byte, an object -/
theorem zr_tlen {k N : Nat} {ty : FieldType} {f : zC → Nat → Value} {z : Int} (hz : z = -(k : Int)) (hk : 0 < k) (hN : N < 1000) (hT : ∀ (C : zC) (s : State), z_KH C s s.heap → va_T ty (C.2.1 k) N (f C) (z_A C) s s.heap) (hd : decode Y.2.1 pc = .ok (.arraylength, 1)) (hq : pc + 1 = q)
    (kk : z_Ex Y S q ls ((0, (N : Int)) :: st) M bc bs Q) : z_Ex Y S pc ls ((1, z) :: st) M bc bs Q := by
  intro C p l e s m args below meth cc H locs cells slots lsA F St
  obtain ⟨hx, hb, hr9, hml, hown, hts, hnm, hlk, hex, hst9, hbase, hK, hKC, hCX⟩ := id F
  obtain ⟨hl, hP, hS, hsz, hokM, hokl, hoks, hc1, hc2⟩ := id St
  subst hq
  subst hz
  rw [List.map_cons, z_cv_neg hk]
  refine va_tlen hx hb (hT C s hKC.2) hS (v := Int32.ofInt (N : Int)) Int32.ofInt_eq_ofNat.symm hd ?_
  exact kk C p l e s m args below meth cc H locs cells slots lsA F ⟨hl, hP, hS, hsz, hokM, hokl, z_okc (z_iok (by unfold z_in; omega)) (z_ok1 hoks).2, hc1, hc2⟩
theorem zr_tbald {i : Int} {k N : Nat} {f : Nat → Int} {z : Int} (hz : z = -(k : Int)) (hk : 0 < k) (hT : ∀ (C : zC) (s : State), z_KH C s s.heap → va_T .byte (C.2.1 k) N (fun j => .int (Int32.ofInt (f j))) (z_A C) s s.heap) (hf : z_in (f i.toNat)) (hd : decode Y.2.1 pc = .ok (.baload, 1)) (hq : pc + 1 = q) (h0 : 0 ≤ i) (h1 : i < N)
    (kk : z_Ex Y S q ls ((0, f i.toNat) :: st) M bc bs Q) : z_Ex Y S pc ls ((0, i) :: (1, z) :: st) M bc bs Q := by
  intro C p l e s m args below meth cc H locs cells slots lsA F St
  obtain ⟨hx, hb, hr9, hml, hown, hts, hnm, hlk, hex, hst9, hbase, hK, hKC, hCX⟩ := id F
  obtain ⟨hl, hP, hS, hsz, hokM, hokl, hoks, hc1, hc2⟩ := id St
  subst hq
  subst hz
  have hii := z_oki (z_ok2 hoks).1
  show W _ _ _ _ _ _ _ _ _ _ _ _ _ _ _ (F0 m pc lsA (.int (Int32.ofInt i) :: z_cv C (1, -(k : Int)) :: st.map (z_cv C)))
  rw [z_cv_neg hk]
  refine va_tb hx hb (hT C s hKC.2) hS (zn_ix h0 h1 hii) (v := .int (Int32.ofInt (f i.toNat))) (by rw [zn_clamp hii]) hd ?_
  exact kk C p l e s m args below meth cc H locs cells slots lsA F ⟨hl, hP, hS, hsz, hokM, hokl, z_okc (z_iok hf) (z_ok2 hoks).2.2, hc1, hc2⟩
/-- a word out of the row of words -/
theorem zr_wald {i : Int} (hd : decode Y.2.1 pc = .ok (.aaload, 1)) (hq : pc + 1 = q) (h0 : 0 ≤ i) (h1 : i < 8)
    (kk : z_Ex Y S q ls ((1, -(11 + i)) :: st) M bc bs Q) : z_Ex Y S pc ls ((0, i) :: (1, -19) :: st) M bc bs Q := by
  intro C p l e s m args below meth cc H locs cells slots lsA F St
  obtain ⟨hx, hb, hr9, hml, hown, hts, hnm, hlk, hex, hst9, hbase, hK, hKC, hCX⟩ := id F
  obtain ⟨hl, hP, hS, hsz, hokM, hokl, hoks, hc1, hc2⟩ := id St
  subst hq
  have hii := z_oki (z_ok2 hoks).1
  have hT := hKC.2.2.2.2.2.2.2.1
  show W _ _ _ _ _ _ _ _ _ _ _ _ _ _ _ (F0 m pc lsA (.int (Int32.ofInt i) :: z_cv C (1, -((19 : Nat) : Int)) :: st.map (z_cv C)))
  rw [z_cv_neg (by decide)]
  refine vb_tq hx hb hT hS (zn_ix (n := 8) h0 (by omega) hii) (v := .ref (C.2.1 (11 + i.toNat))) (by rw [zn_clamp hii]) hd ?_
  have kk1 := kk C p l e s m args below meth cc H locs cells slots lsA F ⟨hl, hP, hS, hsz, hokM, hokl, z_okc (zok_r (by omega)) (z_ok2 hoks).2.2, hc1, hc2⟩
  have e9 : z_cv C (1, -(11 + i)) = .ref (C.2.1 (11 + i.toNat)) := by
    rw [show (-(11 + i)) = -((11 + i.toNat : Nat) : Int) by omega]
    exact z_cv_neg (by omega)
  rw [List.map_cons, e9] at kk1
  exact kk1
/-- the length of a row of ours -/
theorem zr_alenI {z : Int} {n : Nat} (h1 : 0 < z) (h2 : z ≤ S.2.1) (hk : S.2.2 z = (10, n)) (hn : n < 3000) (hd : decode Y.2.1 pc = .ok (.arraylength, 1)) (hq : pc + 1 = q)
    (kk : z_Ex Y S q ls ((0, (n : Int)) :: st) M bc bs Q) : z_Ex Y S pc ls ((1, z) :: st) M bc bs Q := by
  intro C p l e s m args below meth cc H locs cells slots lsA F St
  obtain ⟨hx, hb, hr, hml, hown, hts, hnm, hlk, hex, hst, hbase, hK, hKC, hCX⟩ := id F
  obtain ⟨hl, hP, hS, hsz, hokM, hokl, hoks, hc1, hc2⟩ := id St
  subst hq
  have hg := z_W_get (C := C) (S := S) (M := M) h1 h2
  rw [hk] at hg
  show W _ _ _ _ _ _ _ _ _ _ _ _ _ _ _ (F0 m pc lsA (va_rf (z_rf C z) :: st.map (z_cv C)))
  rw [z_rf_pos h1]
  refine va_alen hx hb hK hP (z.toNat - 1) 0 hg rfl (v := Int32.ofInt (n : Int)) Int32.ofInt_eq_ofNat.symm hd ?_
  exact kk C p l e s m args below meth cc H locs cells slots lsA F ⟨hl, hP, hS, hsz, hokM, hokl, z_okc (z_iok (by unfold z_in; omega)) (z_ok1 hoks).2, hc1, hc2⟩
/-- a static that is null or a constant -/
theorem zr_gets2 {Cn n d : String} {v v2 : zV} {idx : Nat} (hZ : ∀ (C : zC) (s : State), z_KH C s s.heap → va_Z Cn n d (z_cv C v) (z_A C) s s.heap ∨ va_Z Cn n d (z_cv C v2) (z_A C) s s.heap) (hv : z_ok v) (hv2 : z_ok v2) (w1 : Cond.fieldLink Y.1.cls idx Cn n d ∈ z_all) (hd : decode Y.2.1 pc = .ok (.getstatic idx, 3)) (hq : pc + 3 = q)
    (kk : z_Ex Y S q ls (v :: st) M bc bs Q) (kk2 : z_Ex Y S q ls (v2 :: st) M bc bs Q) : z_Ex Y S pc ls st M bc bs Q := by
  intro C p l e s m args below meth cc H locs cells slots lsA F St
  obtain ⟨hx, hb, hr9, hml, hown, hts, hnm, hlk, hex, hst9, hbase, hK, hKC, hCX⟩ := id F
  obtain ⟨hl, hP, hS, hsz, hokM, hokl, hoks, hc1, hc2⟩ := id St
  subst hq
  rcases hZ C s hKC.2 with h | h
  · exact va_gets hx hb h hS hown (hts _ w1) (fun _ h => h) hd (kk C p l e s m args below meth cc H locs cells slots lsA F ⟨hl, hP, hS, hsz, hokM, hokl, z_okc hv hoks, hc1, hc2⟩)
  · exact va_gets hx hb h hS hown (hts _ w1) (fun _ h => h) hd (kk2 C p l e s m args below meth cc H locs cells slots lsA F ⟨hl, hP, hS, hsz, hokM, hokl, z_okc hv2 hoks, hc1, hc2⟩)
/-- a string of the pool -/
theorem zr_ldcS {k ci : Nat} (hk : k < 38) (hci : (z_sn.getD k default).2.1 = ci) (hcl : (z_sn.getD k default).1 = Y.1.cls) (hd : decode Y.2.1 pc = .ok (.ldc ci, 2)) (hq : pc + 2 = q)
    (kk : z_Ex Y S q ls ((1, -((100 + k : Nat) : Int)) :: st) M bc bs Q) : z_Ex Y S pc ls st M bc bs Q := by
  intro C p l e s m args below meth cc H locs cells slots lsA F St
  obtain ⟨hx, hb, hr9, hml, hown, hts, hnm, hlk, hex, hst9, hbase, hK, hKC, hCX⟩ := id F
  obtain ⟨hl, hP, hS, hsz, hokM, hokl, hoks, hc1, hc2⟩ := id St
  subst hq
  subst hci
  have hR := hKC.1.2.1 k hk
  rw [hcl] at hR
  refine va_ldcS hx hb hown hR hd ?_
  have kk1 := kk C p l e s m args below meth cc H locs cells slots lsA F ⟨hl, hP, hS, hsz, hokM, hokl, z_okc (zok_r (by omega)) hoks, hc1, hc2⟩
  rw [List.map_cons, z_cv_neg (by omega)] at kk1
  exact kk1
/-- Math.max, by the library's contract -/
theorem zr_mmax {x y : Int} {idx : Nat} (w1 : Cond.methodLink Y.1.cls idx Lib.Math.max.name ∈ z_all) (hfr : Nat.ble 1 Y.2.2.2.2.1.1 = true) (hst : z_one st = true) (hlo : Nat.ble (st.length + 13) Y.2.2.2.2.1.2 = true) (hd : decode Y.2.1 pc = .ok (.invokestatic idx, 3)) (hq : pc + 3 = q)
    (kk : z_Ex Y S q ls ((0, if x < y then y else x) :: st) M bc bs Q) : z_Ex Y S pc ls ((0, y) :: (0, x) :: st) M bc bs Q := by
  intro C p l e s m args below meth cc H locs cells slots lsA F St
  obtain ⟨hx, hb, hr9, hml, hown, hts, hnm, hlk, hex, hst9, hbase, hK, hKC, hCX⟩ := id F
  obtain ⟨hl, hP, hS, hsz, hokM, hokl, hoks, hc1, hc2⟩ := id St
  subst hq
  have hX := z_oki (z_ok2 hoks).2.1
  have hY := z_oki (z_ok2 hoks).1
  refine va_mmax (x := Int32.ofInt x) (y := Int32.ofInt y) (rest := st.map (z_cv C)) hx hb (hml.trans hl.1.symm) hown (hts _ w1) (hts _ (z_all_in (i := 1146) (by decide +kernel) (by decide +kernel))) (hts _ (z_all_in (i := 76) (by decide +kernel) (by decide +kernel))) (hts _ (z_all_in (i := 1147) (by decide +kernel) (by decide +kernel))) (Nat.le_of_ble_eq_true hfr) (by rw [z_one_sum hst]; exact Nat.le_of_ble_eq_true hlo) (by show cells ≤ Y.2.2.2.2.2.1; omega) (by show slots ≤ Y.2.2.2.2.2.2.1; omega) hd ?_
  have e9 : (if Int32.ofInt x < Int32.ofInt y then Int32.ofInt y else Int32.ofInt x) = Int32.ofInt (if x < y then y else x) := by
    by_cases h : x < y
    · rw [if_pos h, if_pos ((zn_lt hX hY).mpr h)]
    · rw [if_neg h, if_neg (fun c => h ((zn_lt hX hY).mp c))]
  rw [e9]
  have hok : z_in (if x < y then y else x) := by
    split
    · exact hY
    · exact hX
  exact kk C p l e s m args below meth cc H locs cells slots lsA F ⟨hl, hP, hS, hsz, hokM, hokl, z_okc (z_iok hok) (z_ok2 hoks).2.2, hc1, hc2⟩
end ZS1
/-- the k-th string has the letters w -/
def zStr (k : Nat) (w : List Int) : Prop := k < 38 ∧ w.length < 200 ∧ z_sl.getD k 0 = w.length ∧ (∀ j : Fin 200, (z_sb.getD k []).getD j 0 = Int32.ofInt (w.getD j 0)) ∧ ∀ j : Fin 200, 0 ≤ w.getD j 0 ∧ w.getD j 0 < 128
theorem zk_sO {k : Nat} (hk : k < 38) (C : zC) (s : State) (h : z_KH C s s.heap) : va_O "java/lang/String" (C.2.1 (100 + k)) (z_A C) s s.heap := (h.2.2.2.2.2.2.2.2.2.2.2.2.2.1 k hk).1
theorem zk_sC {k : Nat} (hk : k < 38) (C : zC) (s : State) (h : z_KH C s s.heap) : va_OF "java/lang/String" "coder" "B" (z_cv C (0, 0)) (C.2.1 (100 + k)) (z_A C) s s.heap := by
  rw [show z_cv C (0, 0) = Value.int 0 from rfl]
  exact (h.2.2.2.2.2.2.2.2.2.2.2.2.2.1 k hk).2.1
theorem zk_sV {k : Nat} (hk : k < 38) (C : zC) (s : State) (h : z_KH C s s.heap) : va_OF "java/lang/String" "value" "[B" (z_cv C (1, -((200 + k : Nat) : Int))) (C.2.1 (100 + k)) (z_A C) s s.heap := by
  rw [z_cv_neg (by omega)]
  exact (h.2.2.2.2.2.2.2.2.2.2.2.2.2.1 k hk).2.2.1
theorem zk_sB {k : Nat} {w : List Int} (hk : zStr k w) (C : zC) (s : State) (h : z_KH C s s.heap) : va_T .byte (C.2.1 (200 + k)) w.length (fun j => .int (Int32.ofInt (w.getD j 0))) (z_A C) s s.heap := by
  have h1 := (h.2.2.2.2.2.2.2.2.2.2.2.2.2.1 k hk.1).2.2.2
  rw [hk.2.2.1] at h1
  obtain ⟨cell, a1, a2, a3, a4, a5, a6, a7⟩ := h1
  refine ⟨cell, a1, a2, a3, a4, a5, fun j hj => ?_, a7⟩
  rw [a6 j hj]
  have := hk.2.2.2.1 ⟨j, Nat.lt_trans hj hk.2.1⟩
  show some (Value.int ((z_sb.getD k []).getD j 0)) = _
  rw [this]
section ZS2
variable {M : zM}
theorem s_J0_coder_7d493 {k : Nat} (hk : k < 38) : z_Call mJ0_coder_7d493 zF [(1, -((100 + k : Nat) : Int))] M (zpF 0 0 M) := by
  refine z_enter (k := 0) rfl rfl rfl ?_
  refine zr_gets (v := (0, 1)) (q := 3) (Cn := "java/lang/String") (n := "COMPACT_STRINGS") (d := "Z") (fun C s h => by rw [show z_cv C (0, 1) = Value.int 1 from rfl]; exact h.2.2.2.2.2.2.2.2.2.2.2.1) (fun _ => z_in_of rfl) (z_all_in (i := 1105) (by decide +kernel) (by decide +kernel)) dJ0_coder_7d493_0 rfl ?_
  refine zr_if_eq (q := 13) (q2 := 6) dJ0_coder_7d493_3 (by decide) rfl (fun h3 => absurd h3 (by decide)) (fun h3 => ?_)
  refine zp_al0 (q := 7) dJ0_coder_7d493_6 rfl ?_
  refine zr_getO (ref := "java/lang/String") (q := 10) (v := (0, 0)) rfl (by omega) (zk_sC hk) (fun _ => z_in_of rfl) (z_all_in (i := 1702) (by decide +kernel) (by decide +kernel)) dJ0_coder_7d493_7 rfl ?_
  refine zr_goto (q := 14) dJ0_coder_7d493_10 (by decide) ?_
  refine zr_ireturn dJ0_coder_7d493_14 rfl (fun _ => by
    show narrow .byte (.int (Int32.ofInt 0)) = .int (Int32.ofInt 0) ∧ fits .byte (.int (Int32.ofInt 0)) = true
    decide +kernel) ?_
  exact ⟨rfl, rfl, rfl⟩
theorem s_J0_isLatin1_aae02 {k : Nat} (hk : k < 38) : z_Call mJ0_isLatin1_aae02 zF [(1, -((100 + k : Nat) : Int))] M (zpF 0 1 M) := by
  refine z_enter (k := 0) rfl rfl rfl ?_
  refine zr_gets (v := (0, 1)) (q := 3) (Cn := "java/lang/String") (n := "COMPACT_STRINGS") (d := "Z") (fun C s h => by rw [show z_cv C (0, 1) = Value.int 1 from rfl]; exact h.2.2.2.2.2.2.2.2.2.2.2.1) (fun _ => z_in_of rfl) (z_all_in (i := 1105) (by decide +kernel) (by decide +kernel)) dJ0_isLatin1_aae02_0 rfl ?_
  refine zr_if_eq (q := 17) (q2 := 6) dJ0_isLatin1_aae02_3 (by decide) rfl (fun h3 => absurd h3 (by decide)) (fun h3 => ?_)
  refine zp_al0 (q := 7) dJ0_isLatin1_aae02_6 rfl ?_
  refine zr_getO (ref := "java/lang/String") (q := 10) (v := (0, 0)) rfl (by omega) (zk_sC hk) (fun _ => z_in_of rfl) (z_all_in (i := 1702) (by decide +kernel) (by decide +kernel)) dJ0_isLatin1_aae02_7 rfl ?_
  refine zr_if_ne (q := 17) (q2 := 13) dJ0_isLatin1_aae02_10 (by decide) rfl (fun h10 => absurd rfl h10) (fun h10 => ?_)
  refine zr_iconst (q := 14) dJ0_isLatin1_aae02_13 rfl (z_in_of rfl) ?_
  refine zr_goto (q := 18) dJ0_isLatin1_aae02_14 (by decide) ?_
  refine zr_ireturn dJ0_isLatin1_aae02_18 rfl (z_fit_z (by decide)) ?_
  exact ⟨rfl, rfl, rfl⟩
theorem s_J0_length_8abf5 {k : Nat} {w : List Int} (hk : zStr k w) : z_Call mJ0_length_8abf5 zF [(1, -((100 + k : Nat) : Int))] M (zpF 0 w.length M) := by
  have hl := hk.2.1
  refine z_enter (k := 0) rfl rfl rfl ?_
  refine zp_al0 (q := 1) dJ0_length_8abf5_0 rfl ?_
  refine zr_getO (ref := "java/lang/String") (q := 4) (v := (1, -((200 + k : Nat) : Int))) rfl (by omega) (zk_sV hk.1) (zok_r (by have := hk.1; omega)) (z_all_in (i := 1701) (by decide +kernel) (by decide +kernel)) dJ0_length_8abf5_1 rfl ?_
  refine zr_tlen (q := 5) (k := 200 + k) (ty := .byte) (f := fun C j => .int (Int32.ofInt (w.getD j 0))) rfl (by omega) (N := w.length) (by omega) (zk_sB hk) dJ0_length_8abf5_4 rfl ?_
  refine zp_al0 (q := 6) dJ0_length_8abf5_5 rfl ?_
  refine zp_callK0 (k := 100 + k) rfl (by omega) (zk_sO hk.1) (s_J0_coder_7d493 hk.1) mtJ0_coder_7d493 wiJ0_coder_7d493 weJ0_coder_7d493 wlJ0_335 (q := 9) dJ0_length_8abf5_6 rfl rfl rfl rfl rfl (fun r S9 M9 h8 hP => ?_) (fun k S9 M9 hP => (z_no hP.1 rfl).elim)
  obtain ⟨rfl, rfl, h9⟩ := hP
  subst M9
  refine zr_ishr (q := 10) (by omega) (by omega) (by decide) (by decide) dJ0_length_8abf5_9 rfl ?_
  refine zr_ireturn dJ0_length_8abf5_10 rfl (z_fit_i _) ?_
  exact ⟨by rw [show ((w.length : Int).toNat >>> (0 : Int).toNat : Nat) = w.length from rfl], rfl, rfl⟩
theorem s_J3_checkIndex_8e157 {i n x : Int} (h0 : 0 ≤ i) (h1 : i < n) : z_Call mJ3_checkIndex_8e157 zF [(0, i), (0, n), (1, x)] M (zpF 0 i M) := by
  refine z_enter (k := 0) rfl rfl rfl ?_
  refine zp_il0 (q := 1) dJ3_checkIndex_8e157_0 rfl ?_
  refine zr_if_lt (q := 9) (q2 := 4) dJ3_checkIndex_8e157_1 (by decide) rfl (fun h => absurd h (by omega)) (fun _ => ?_)
  refine zp_il0 (q := 5) dJ3_checkIndex_8e157_4 rfl ?_
  refine zp_il1 (q := 6) dJ3_checkIndex_8e157_5 rfl ?_
  refine zr_icmp_lt (q := 16) (q2 := 9) dJ3_checkIndex_8e157_6 (by decide) rfl (fun _ => ?_) (fun h => absurd h1 h)
  refine zp_il0 (q := 17) dJ3_checkIndex_8e157_16 rfl ?_
  refine zr_ireturn dJ3_checkIndex_8e157_17 rfl (z_fit_i _) ?_
  exact ⟨rfl, rfl, rfl⟩
theorem s_J0_checkIndex_df160 {i n : Int} (h0 : 0 ≤ i) (h1 : i < n) : z_Call mJ0_checkIndex_df160 zF [(0, i), (0, n)] M (zpF 9 0 M) := by
  have hh : ∀ x : Int, z_Ex mJ0_checkIndex_df160 zF 5 [(0, i), (0, n)] [(1, x), (0, n), (0, i)] M 0 0 (zpF 9 0 M) := by
    intro x
    refine zp_callS3 (s_J3_checkIndex_8e157 h0 h1) mtJ3_checkIndex_8e157 wtJ3_checkIndex_8e157 wlJ0_1059 (q := 8) dJ0_checkIndex_df160_5 rfl rfl rfl rfl rfl (fun r S9 M9 h8 hP => ?_) (fun k S9 M9 hP => (z_no hP.1 rfl).elim)
    obtain ⟨rfl, rfl, h9⟩ := hP
    subst M9
    refine zr_pop (q := 9) dJ0_checkIndex_df160_8 rfl (Or.inl rfl) ?_
    refine zr_return dJ0_checkIndex_df160_9 rfl ?_
    exact ⟨rfl, rfl, rfl⟩
  refine z_enter (k := 0) rfl rfl rfl ?_
  refine zp_il0 (q := 1) dJ0_checkIndex_df160_0 rfl ?_
  refine zp_il1 (q := 2) dJ0_checkIndex_df160_1 rfl ?_
  refine zr_gets2 (v := (1, 0)) (v2 := (1, -((99 : Nat) : Int))) (q := 5) (Cn := "jdk/internal/util/Preconditions") (n := "SIOOBE_FORMATTER") (d := "Ljava/util/function/BiFunction;") (fun C s h => ?_) (fun _ => z_in_of rfl) (fun _ => z_in_of rfl) (z_all_in (i := 1121) (by decide +kernel) (by decide +kernel)) dJ0_checkIndex_df160_2 rfl (hh _) (hh _)
  rcases h.2.2.2.2.2.2.2.2.2.2.2.2.1 with h1 | h1
  · exact Or.inl h1
  · right
    rw [z_cv_neg (by decide)]
    exact h1
theorem zb_255 : ∀ x : Fin 128, (x : Nat) &&& 255 = x := by decide +kernel
theorem s_J1_charAt_3b067 {k : Nat} {w : List Int} (hk : zStr k w) {i : Int} (h0 : 0 ≤ i) (h1 : i < w.length) : z_Call mJ1_charAt_3b067 zF [(1, -((200 + k : Nat) : Int)), (0, i)] M (zpF 0 (w.getD i.toNat 0) M) := by
  have hl := hk.2.1
  have hb := hk.2.2.2.2 ⟨i.toNat, by omega⟩
  dsimp only at hb
  refine z_enter (k := 0) rfl rfl rfl ?_
  refine zp_il1 (q := 1) dJ1_charAt_3b067_0 rfl ?_
  refine zp_al0 (q := 2) dJ1_charAt_3b067_1 rfl ?_
  refine zr_tlen (q := 3) (k := 200 + k) (ty := .byte) (f := fun C j => .int (Int32.ofInt (w.getD j 0))) rfl (by omega) (N := w.length) (by omega) (zk_sB hk) dJ1_charAt_3b067_2 rfl ?_
  refine zp_callS2 (s_J0_checkIndex_df160 h0 h1) mtJ0_checkIndex_df160 wtJ0_checkIndex_df160 wlJ1_9 (q := 6) dJ1_charAt_3b067_3 rfl rfl rfl rfl rfl (fun r S9 M9 h8 hP => ?_) (fun k S9 M9 hP => (z_no hP.1 rfl).elim)
  obtain ⟨rfl, rfl, h9⟩ := hP
  subst M9
  refine zp_al0 (q := 7) dJ1_charAt_3b067_6 rfl ?_
  refine zp_il1 (q := 8) dJ1_charAt_3b067_7 rfl ?_
  refine zr_tbald (q := 9) (k := 200 + k) (N := w.length) (f := fun j => w.getD j 0) rfl (by omega) (zk_sB hk) (by show z_in (w.getD i.toNat 0); unfold z_in; omega) dJ1_charAt_3b067_8 rfl h0 h1 ?_
  refine zr_sipush (q := 12) dJ1_charAt_3b067_9 rfl (z_in_of rfl) (by decide +kernel) ?_
  refine zr_iand (q := 13) hb.1 (by decide) dJ1_charAt_3b067_12 rfl ?_
  have e := zb_255 ⟨(w.getD i.toNat 0).toNat, by omega⟩
  dsimp only at e
  rw [show (255 : Int).toNat = 255 from rfl, e]
  refine zr_i2c (q := 14) dJ1_charAt_3b067_13 rfl ?_
  refine zr_ireturn dJ1_charAt_3b067_14 rfl (z_fit_c (by omega) (by omega)) ?_
  exact ⟨by rw [show (((w.getD i.toNat 0).toNat : Nat) : Int) % 65536 = w.getD i.toNat 0 by omega], rfl, rfl⟩
theorem s_J0_charAt_5068e {k : Nat} {w : List Int} (hk : zStr k w) {i : Int} (h0 : 0 ≤ i) (h1 : i < w.length) : z_Call mJ0_charAt_5068e zF [(1, -((100 + k : Nat) : Int)), (0, i)] M (zpF 0 (w.getD i.toNat 0) M) := by
  have hl := hk.2.1
  have hb := hk.2.2.2.2 ⟨i.toNat, by omega⟩
  dsimp only at hb
  refine z_enter (k := 0) rfl rfl rfl ?_
  refine zp_al0 (q := 1) dJ0_charAt_5068e_0 rfl ?_
  refine zp_callK0 (k := 100 + k) rfl (by omega) (zk_sO hk.1) (s_J0_isLatin1_aae02 hk.1) mtJ0_isLatin1_aae02 wiJ0_isLatin1_aae02 weJ0_isLatin1_aae02 wlJ0_492 (q := 4) dJ0_charAt_5068e_1 rfl rfl rfl rfl rfl (fun r S9 M9 h8 hP => ?_) (fun k S9 M9 hP => (z_no hP.1 rfl).elim)
  obtain ⟨rfl, rfl, h9⟩ := hP
  subst M9
  refine zr_if_eq (q := 16) (q2 := 7) dJ0_charAt_5068e_4 (by decide) rfl (fun h => absurd h (by decide)) (fun _ => ?_)
  refine zp_al0 (q := 8) dJ0_charAt_5068e_7 rfl ?_
  refine zr_getO (ref := "java/lang/String") (q := 11) (v := (1, -((200 + k : Nat) : Int))) rfl (by omega) (zk_sV hk.1) (zok_r (by have := hk.1; omega)) (z_all_in (i := 1701) (by decide +kernel) (by decide +kernel)) dJ0_charAt_5068e_8 rfl ?_
  refine zp_il1 (q := 12) dJ0_charAt_5068e_11 rfl ?_
  refine zp_callS2 (s_J1_charAt_3b067 hk h0 h1) mtJ1_charAt_3b067 wtJ1_charAt_3b067 wlJ0_495 (q := 15) dJ0_charAt_5068e_12 rfl rfl rfl rfl rfl (fun r S9 M9 h8 hP => ?_) (fun k S9 M9 hP => (z_no hP.1 rfl).elim)
  obtain ⟨rfl, rfl, h9⟩ := hP
  subst M9
  refine zr_ireturn dJ0_charAt_5068e_15 rfl (z_fit_c hb.1 (by omega)) ?_
  exact ⟨rfl, rfl, rfl⟩
end ZS2
/-! the words' letters and digits -/
theorem zst_W {i : Nat} (hi : i < 8) : zStr (z_wl.getD i 0) (zWl.getD i []) := by
  match i, hi with
  | 0, _ => unfold zStr; decide +kernel
  | 1, _ => unfold zStr; decide +kernel
  | 2, _ => unfold zStr; decide +kernel
  | 3, _ => unfold zStr; decide +kernel
  | 4, _ => unfold zStr; decide +kernel
  | 5, _ => unfold zStr; decide +kernel
  | 6, _ => unfold zStr; decide +kernel
  | 7, _ => unfold zStr; decide +kernel
theorem zst_22 : zStr 22 [97, 108, 108, 111, 116] := by unfold zStr; decide +kernel
theorem zst_23 : zStr 23 [112, 105, 110] := by unfold zStr; decide +kernel
theorem zst_24 : zStr 24 [101, 114, 116, 105, 102, 121] := by unfold zStr; decide +kernel
theorem zst_25 : zStr 25 [110, 107] := by unfold zStr; decide +kernel
theorem zst_26 : zStr 26 [111, 118, 101] := by unfold zStr; decide +kernel
theorem zst_27 : zStr 27 [111, 117, 110, 116] := by unfold zStr; decide +kernel
theorem zst_28 : zStr 28 [100] := by unfold zStr; decide +kernel
theorem zst_29 : zStr 29 [104, 100, 114, 97, 119] := by unfold zStr; decide +kernel
theorem zk_wL {i : Int} (h0 : 0 ≤ i) (h1 : i < 8) (C : zC) (s : State) (h : z_KH C s s.heap) : va_OF "WindElection$Word" "letters" "Ljava/lang/String;" (z_cv C (1, -((100 + z_wl.getD i.toNat 0 : Nat) : Int))) (C.2.1 (11 + i.toNat)) (z_A C) s s.heap := by
  rw [z_cv_neg (by omega)]
  exact h.2.2.2.2.1 i.toNat (by omega)
theorem z_D1v : ∀ i : Fin 8, ([0, 1, 2, 2, 2, 2, 0, 0] : List Int32).getD i 0 = Int32.ofInt (zD1 (i : Nat)) := by decide +kernel
theorem z_D2v : ∀ i : Fin 8, ([0, 0, 1, 1, 0, 2, 0, 0] : List Int32).getD i 0 = Int32.ofInt (zD2 (i : Nat)) := by decide +kernel
theorem zk_w1 {i : Int} (h0 : 0 ≤ i) (h1 : i < 8) (C : zC) (s : State) (h : z_KH C s s.heap) : va_OF "WindElection$Word" "firstDigits" "I" (z_cv C (0, zD1 i)) (C.2.1 (11 + i.toNat)) (z_A C) s s.heap := by
  have h2 := (h.2.2.2.1.1 i.toNat (show i.toNat < 8 by omega)).2.2 ("WindElection$Word", "firstDigits", "I", [0, 1, 2, 2, 2, 2, 0, 0]) (by unfold z_wF; exact List.mem_cons_of_mem _ List.mem_cons_self)
  have e := z_D1v ⟨i.toNat, by omega⟩
  dsimp only at h2 e
  rw [e, show ((i.toNat : Nat) : Int) = i by omega] at h2
  exact h2
theorem zk_w2 {i : Int} (h0 : 0 ≤ i) (h1 : i < 8) (C : zC) (s : State) (h : z_KH C s s.heap) : va_OF "WindElection$Word" "secondDigits" "I" (z_cv C (0, zD2 i)) (C.2.1 (11 + i.toNat)) (z_A C) s s.heap := by
  have h2 := (h.2.2.2.1.1 i.toNat (show i.toNat < 8 by omega)).2.2 ("WindElection$Word", "secondDigits", "I", [0, 0, 1, 1, 0, 2, 0, 0]) (by unfold z_wF; exact List.mem_cons_of_mem _ (List.mem_cons_of_mem _ List.mem_cons_self))
  have e := z_D2v ⟨i.toNat, by omega⟩
  dsimp only at h2 e
  rw [e, show ((i.toNat : Nat) : Int) = i by omega] at h2
  exact h2
