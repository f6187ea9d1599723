/-! dep: 20 21 22 -/
/-! ===== calls on constants, their rows ===== -/
section ZR3
variable {Y : zY} {S : zS} {pc q : Nat} {ls st : List zV} {M : zM} {bc bs : Nat} {Q : zV → zS → zM → Prop}
/-- a method that the receiver's class inherits, called on a constant -/
theorem zr_callU {Y' : zY} {P : zV → zS → zM → Prop} {idx k : Nat} {E : String} {z : Int} (hz : z = -(k : Int)) (hk : 0 < k) (hO : ∀ (C : zC) (s : State), z_KH C s s.heap → va_O E (C.2.1 k) (z_A C) s s.heap) (hc : z_Call Y' S [(1, z)] M P) (hno : ∀ k S M, ¬ P (8, k) S M)
    (w0 : Cond.code Y'.1 Y'.2.1 Y'.2.2.1 Y'.2.2.2.1 ∈ z_all) (w1 : Cond.methodLink Y.1.cls idx ⟨E, Y'.1.name, Y'.1.desc⟩ ∈ z_all) (w2 : Cond.sameMethod E Y'.1.cls Y'.1.name Y'.1.desc ∈ z_all) (w3 : Cond.selects E ⟨E, Y'.1.name, Y'.1.desc⟩ Y'.1 ∈ z_all) (w4 : Cond.instanceMethod Y'.1 ∈ z_all) (w5 : Cond.initialized Y'.1.cls ∈ z_all)
    (hnm : Y'.1.cls ≠ "java/lang/invoke/MethodHandle" ∧ Y'.1.cls ≠ "java/lang/invoke/VarHandle" ∧ (parseMethodDescriptor Y'.1.desc).map (fun d => d.parameters.length) = some 0)
    (hd : decode Y.2.1 pc = .ok (.invokevirtual idx, 3)) (hq : pc + 3 = q) (hrm : (Nat.ble (Y'.2.2.2.2.1.1 + 1) Y.2.2.2.2.1.1 && Nat.ble (8 + (Y'.2.2.1 + 11) + Y'.2.2.2.2.1.2) Y.2.2.2.2.1.2) = true) (hst : z_one st = true) (hsl : Nat.ble st.length 8 = true) (hmc : (Nat.ble Y'.2.2.2.2.2.1 bc && Nat.ble Y'.2.2.2.2.2.2.1 bs) = true)
    (kn : ∀ r S' M', r.1 ≠ 8 → P r S' M' → z_Ex Y S' q ls (z_ps r st) M' (bc - Y'.2.2.2.2.2.1) (bs - Y'.2.2.2.2.2.2.1) Q) : z_Ex Y S pc ls ((1, z) :: st) M bc bs Q := by
  simp only [Bool.and_eq_true] at hrm hmc
  have hm1 := Nat.le_of_ble_eq_true hmc.1
  have hm2 := Nat.le_of_ble_eq_true hmc.2
  intro C p l e s m args below meth cc H locs cells slots lsA F St
  obtain ⟨hx, hb, hr9, hml, hown, hts, hnm9, hlk, hex, hst9, hbase, hK, hKC, hCX⟩ := id F
  obtain ⟨hl, hP, hS, hsz, hokM, hokl, hoks, hc1, hc2⟩ := id St
  subst hq
  subst hz
  have hM := z_met hc hno C l hst9 (fun v hv => hoks v (by rw [List.mem_singleton.mp hv]; exact List.mem_cons_self))
  have hok9 : ∀ v ∈ st, z_ok v := (z_ok1 hoks).2
  have hrecv : ∃ cell : Cell, H[C.2.1 k]? = some cell ∧ cell.vm.isStatics = false ∧ s.vm.findClass E = some cell.cls := by
    obtain ⟨cell, h1, h2, h3, -⟩ := (hO C s hKC.2).kept hS.2.1
    exact ⟨cell, h1, h2, h3⟩
  have estk : ((1, -(k : Int)) :: st).map (z_cv C) = (([] : List Value)).reverse ++ .ref (C.2.1 k) :: st.map (z_cv C) := by
    rw [List.map_cons, z_cv_neg hk]
    rfl
  have ea : [((1, -(k : Int)) : zV)].map (z_cv C) = [Value.ref (C.2.1 k)] := by
    rw [List.map_cons, z_cv_neg hk]
    rfl
  have hpre := z_pre (as := [(1, -(k : Int))]) hP hS hsz hokM hbase hK hKC
  rw [estk]
  rw [ea] at hM hpre
  have hG : GoodIn z_all (va_wsU Y.1.cls idx E Y'.1.cls ⟨E, Y'.1.name, Y'.1.desc⟩ Y'.1 (z_wsY Y')) := by
    intro w hw
    rcases List.mem_append.mp hw with h | h
    · have h2 : w ∈ z_all := by
        simp only [List.mem_cons, List.not_mem_nil, or_false] at h
        rcases h with rfl | rfl | rfl | rfl | rfl
        · exact w1
        · exact w2
        · exact w3
        · exact w4
        · exact w5
      exact z_goodY w0 w (List.mem_cons_of_mem _ h2)
    · exact z_goodY w0 w h
  have cw := va_cwU (R := z_rm Y) (own := Y.1.cls) (C := E) (owner := Y'.1.cls) (index := idx) (x := ⟨E, Y'.1.name, Y'.1.desc⟩) (y := Y'.1) (bytes := Y'.2.1) (maxL := Y'.2.2.1) (ret := Y'.2.2.2.1) (mc := Y'.2.2.2.2.2.1) (ms := Y'.2.2.2.2.2.2.1) (rm := z_rm Y') 0 hts hG rfl rfl rfl rfl hnm ⟨Nat.le_of_ble_eq_true hrm.1, Nat.le_of_ble_eq_true hrm.2⟩
  have hr := va_runU (H := H) (locs := locs) (cells := cells) (slots := slots) (e := e) (below := below) (meth := meth) (rest := st.map (z_cv C)) (g := F0 m pc lsA (([] : List Value).reverse ++ .ref (C.2.1 k) :: st.map (z_cv C))) ⟨hx, hb, hml, hown, hts⟩ hM cw ⟨z_B_blind, hrecv, hpre⟩ rfl rfl hl.1 rfl (lv_room (by rw [z_one_sum hst]; exact Nat.le_of_ble_eq_true hsl)) hd ⟨(by show cells + _ ≤ Y.2.2.2.2.2.1; omega), (by show slots + _ ≤ Y.2.2.2.2.2.2.1; omega)⟩
  exact z_behindN (st := st) F ⟨hl, hP, hS, hsz, hokM, hokl, hok9, hc1, hc2⟩ hm1 hm2 hr kn
/-- an int of a constant row -/
theorem zr_tiald {i : Int} {k N : Nat} {f : Nat → Int} {z : Int} (hz : z = -(k : Int)) (hk : 0 < k) (hT : ∀ (C : zC) (s : State), z_KH C s s.heap → va_T .int (C.2.1 k) N (fun j => .int (Int32.ofInt (f j))) (z_A C) s s.heap) (hf : z_in (f i.toNat)) (hd : decode Y.2.1 pc = .ok (.iaload, 1)) (hq : pc + 1 = q) (h0 : 0 ≤ i) (h1 : i < N)
    (kk : z_Ex Y S q ls ((0, f i.toNat) :: st) M bc bs Q) : z_Ex Y S pc ls ((0, i) :: (1, z) :: st) M bc bs Q := by
  intro C p l e s m args below meth cc H locs cells slots lsA F St
  obtain ⟨hx, hb, hr9, hml, hown, hts, hnm, hlk, hex, hst9, hbase, hK, hKC, hCX⟩ := id F
  obtain ⟨hl, hP, hS, hsz, hokM, hokl, hoks, hc1, hc2⟩ := id St
  subst hq
  subst hz
  have hii := z_oki (z_ok2 hoks).1
  show W _ _ _ _ _ _ _ _ _ _ _ _ _ _ _ (F0 m pc lsA (.int (Int32.ofInt i) :: z_cv C (1, -(k : Int)) :: st.map (z_cv C)))
  rw [z_cv_neg hk]
  refine va_ti hx hb (hT C s hKC.2) hS (zn_ix h0 h1 hii) (v := .int (Int32.ofInt (f i.toNat))) (by rw [zn_clamp hii]) hd ?_
  exact kk C p l e s m args below meth cc H locs cells slots lsA F ⟨hl, hP, hS, hsz, hokM, hokl, z_okc (z_iok hf) (z_ok2 hoks).2.2, hc1, hc2⟩
end ZR3
theorem z_ordF : ∀ i : Fin 10, ([0, 1, 2, 3, 4, 5, 6, 7, 8, 9] : List Int32).getD i 0 = Int32.ofInt (i : Nat) := by decide +kernel
theorem z_ordW : ∀ i : Fin 8, ([0, 1, 2, 3, 4, 5, 6, 7] : List Int32).getD i 0 = Int32.ofInt (i : Nat) := by decide +kernel
theorem zk_ordF (i : Nat) (hi : i < 10) (C : zC) (s : State) (h : z_KH C s s.heap) : va_OF "java/lang/Enum" "ordinal" "I" (z_cv C (0, (i : Int))) (C.2.1 (1 + i)) (z_A C) s s.heap := by
  have h2 := (h.2.2.1.1 i hi).2.2 ("java/lang/Enum", "ordinal", "I", [0, 1, 2, 3, 4, 5, 6, 7, 8, 9]) (by unfold z_fF; exact List.mem_singleton.mpr rfl)
  have e := z_ordF ⟨i, hi⟩
  dsimp only at h2 e
  rw [e] at h2
  exact h2
theorem zk_ordW (i : Nat) (hi : i < 8) (C : zC) (s : State) (h : z_KH C s s.heap) : va_OF "java/lang/Enum" "ordinal" "I" (z_cv C (0, (i : Int))) (C.2.1 (11 + i)) (z_A C) s s.heap := by
  have h2 := (h.2.2.2.1.1 i hi).2.2 ("java/lang/Enum", "ordinal", "I", [0, 1, 2, 3, 4, 5, 6, 7]) (by unfold z_wF; exact List.mem_cons_self)
  have e := z_ordW ⟨i, hi⟩
  dsimp only at h2 e
  rw [e] at h2
  exact h2
theorem s_ordF {M : zM} (i : Nat) (hi : i < 10) : z_Call mJx29ce0_ordinal_8abf5 zF [(1, -((1 + i : Nat) : Int))] M (zpF 0 (i : Int) M) := by
  refine z_enter (k := 0) rfl rfl rfl ?_
  refine zp_al0 (q := 1) dJx29ce0_ordinal_8abf5_0 rfl ?_
  refine zr_getO (ref := "java/lang/Enum") (q := 4) rfl (by omega) (zk_ordF i hi) (z_iok ⟨by omega, by omega⟩) (z_all_in (i := 1699) (by decide +kernel) (by decide +kernel)) dJx29ce0_ordinal_8abf5_1 rfl ?_
  refine zr_ireturn dJx29ce0_ordinal_8abf5_4 rfl (z_fit_i _) ?_
  exact ⟨rfl, rfl, rfl⟩
theorem s_ordW {M : zM} (i : Nat) (hi : i < 8) : z_Call mJx29ce0_ordinal_8abf5 zF [(1, -((11 + i : Nat) : Int))] M (zpF 0 (i : Int) M) := by
  refine z_enter (k := 0) rfl rfl rfl ?_
  refine zp_al0 (q := 1) dJx29ce0_ordinal_8abf5_0 rfl ?_
  refine zr_getO (ref := "java/lang/Enum") (q := 4) rfl (by omega) (zk_ordW i hi) (z_iok ⟨by omega, by omega⟩) (z_all_in (i := 1699) (by decide +kernel) (by decide +kernel)) dJx29ce0_ordinal_8abf5_1 rfl ?_
  refine zr_ireturn dJx29ce0_ordinal_8abf5_4 rfl (z_fit_i _) ?_
  exact ⟨rfl, rfl, rfl⟩
section ZR4
variable {Y : zY} {pc q : Nat} {ls st : List zV} {M : zM} {bc bs : Nat} {Q : zV → zS → zM → Prop}
/-- the ordinal of a fault, called in the class -/
theorem zr_ordF {i : Nat} {z : Int} (hi : i < 10) (hz : z = -((1 + i : Nat) : Int)) (ho : Y.1.cls = "WindElection") (hd : decode Y.2.1 pc = .ok (.invokevirtual 347, 3)) (hq : pc + 3 = q) (hrm : (Nat.ble 1 Y.2.2.2.2.1.1 && Nat.ble 20 Y.2.2.2.2.1.2) = true) (hst : z_one st = true) (hsl : Nat.ble st.length 8 = true)
    (kk : z_Ex Y zF q ls ((0, (i : Int)) :: st) M bc bs Q) : z_Ex Y zF pc ls ((1, z) :: st) M bc bs Q := by
  subst hz
  refine zr_callU (Y' := mJx29ce0_ordinal_8abf5) (P := zpF 0 (i : Int) M) (k := 1 + i) (E := "WindElection$Fault") rfl (by omega) (fun C s h => (h.2.2.1.1 i hi).2.1) (s_ordF i hi) (fun k S M h => z_no h.1 rfl) (z_all_in (i := 451) (by decide +kernel) (by decide +kernel)) (by rw [ho]; exact z_all_in (i := 446) (by decide +kernel) (by decide +kernel)) (z_all_in (i := 447) (by decide +kernel) (by decide +kernel)) (z_all_in (i := 449) (by decide +kernel) (by decide +kernel)) (z_all_in (i := 450) (by decide +kernel) (by decide +kernel)) mtJx29ce0_ordinal_8abf5.2.1 mtJx29ce0_ordinal_8abf5.2.2 hd hq hrm hst hsl (by simp [mJx29ce0_ordinal_8abf5]) (fun r S' M' h8 hP => ?_)
  obtain ⟨rfl, rfl, rfl⟩ := hP
  exact kk
theorem zr_ordW {i : Nat} {z : Int} (hi : i < 8) (hz : z = -((11 + i : Nat) : Int)) (ho : Y.1.cls = "WindElection") (hd : decode Y.2.1 pc = .ok (.invokevirtual 396, 3)) (hq : pc + 3 = q) (hrm : (Nat.ble 1 Y.2.2.2.2.1.1 && Nat.ble 20 Y.2.2.2.2.1.2) = true) (hst : z_one st = true) (hsl : Nat.ble st.length 8 = true)
    (kk : z_Ex Y zF q ls ((0, (i : Int)) :: st) M bc bs Q) : z_Ex Y zF pc ls ((1, z) :: st) M bc bs Q := by
  subst hz
  refine zr_callU (Y' := mJx29ce0_ordinal_8abf5) (P := zpF 0 (i : Int) M) (k := 11 + i) (E := "WindElection$Word") rfl (by omega) (fun C s h => (h.2.2.2.1.1 i hi).2.1) (s_ordW i hi) (fun k S M h => z_no h.1 rfl) (z_all_in (i := 451) (by decide +kernel) (by decide +kernel)) (by rw [ho]; exact z_all_in (i := 1178) (by decide +kernel) (by decide +kernel)) (z_all_in (i := 1179) (by decide +kernel) (by decide +kernel)) (z_all_in (i := 1180) (by decide +kernel) (by decide +kernel)) (z_all_in (i := 450) (by decide +kernel) (by decide +kernel)) mtJx29ce0_ordinal_8abf5.2.1 mtJx29ce0_ordinal_8abf5.2.2 hd hq hrm hst hsl (by simp [mJx29ce0_ordinal_8abf5]) (fun r S' M' h8 hP => ?_)
  obtain ⟨rfl, rfl, rfl⟩ := hP
  exact kk
/-- the switch maps -/
theorem zr_mapF {i : Int} (hd : decode Y.2.1 pc = .ok (.iaload, 1)) (hq : pc + 1 = q) (h0 : 0 ≤ i) (h1 : i < 10) (kk : z_Ex Y zF q ls ((0, i) :: st) M bc bs Q) : z_Ex Y zF pc ls ((0, i) :: (1, -20) :: st) M bc bs Q := by
  refine zr_tiald (k := 20) (N := 10) (f := fun j => (j : Int)) rfl (by decide) (fun C s h => h.2.2.2.2.2.2.2.2.1) (by unfold z_in; omega) hd hq h0 h1 ?_
  rw [show (((i.toNat : Nat)) : Int) = i by omega]
  exact kk
theorem zr_mapW {i : Int} (hd : decode Y.2.1 pc = .ok (.iaload, 1)) (hq : pc + 1 = q) (h0 : 0 ≤ i) (h1 : i < 8) (kk : z_Ex Y zF q ls ((0, i + 1) :: st) M bc bs Q) : z_Ex Y zF pc ls ((0, i) :: (1, -21) :: st) M bc bs Q := by
  refine zr_tiald (k := 21) (N := 8) (f := fun j => (j : Int) + 1) rfl (by decide) (fun C s h => h.2.2.2.2.2.2.2.2.2.2.1) (by unfold z_in; omega) hd hq h0 h1 ?_
  rw [show (((i.toNat : Nat)) : Int) = i by omega]
  exact kk
end ZR4
