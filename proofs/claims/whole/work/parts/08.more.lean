/-! ===== throws, constructors, nest mates, constants ===== -/
theorem z_ot_of {w : Cond} (h : goodWord w = true ∨ z_isN w = true) (ho : vx_ot w = true) {C : zC} {s : State} {args : Array Value} (hw : w ∈ lw_tbl) (hts : ∀ w ∈ z_all, w.before args s = true) (hKA : z_KA C s) : w.before args s = true := by
  rcases h with h | h
  · exact hts w (List.mem_filter.mpr ⟨hw, h⟩)
  · have h1 := hKA.1 w hw h
    by_cases g : goodWord w = true
    · exact hts w (List.mem_filter.mpr ⟨hw, g⟩)
    · simp only [vx_ot, Bool.or_eq_true] at ho
      rcases ho with ho | ho
      · exact va_Nw.use ho h1
      · exact absurd ho g
def z_thr (ik ic : Nat) (cls : String) (names : List String) : List Cond := Cond.classLink "WindElection" ik cls :: Cond.initialized cls :: vx_atS "WindElection" ic cls names
/-- the words of a throw out of WindElection -/
def z_Thr (ik ic : Nat) (k : Int) (names : List String) : Prop := Bundle.fit (z_ex k) = true ∧ (∀ n ∈ names, Bundle.fit n = true) ∧ ∀ w ∈ z_thr ik ic (z_ex k) names, w ∈ lw_tbl ∧ (goodWord w = true ∨ z_isN w = true) ∧ vx_ot w = true
theorem z_Thr_of {ik ic : Nat} {k : Int} {names : List String} (h1 : Bundle.fit (z_ex k) = true) (h2 : names.all Bundle.fit = true) (h3 : (z_thr ik ic (z_ex k) names).all (fun w => decide (w ∈ lw_tbl) && ((goodWord w || z_isN w) && vx_ot w)) = true) : z_Thr ik ic k names := by
  refine ⟨h1, fun n hn => List.all_eq_true.mp h2 n hn, fun w hw => ?_⟩
  have h := List.all_eq_true.mp h3 w hw
  simp only [Bool.and_eq_true, decide_eq_true_eq, Bool.or_eq_true] at h
  exact ⟨h.1, h.2.1, h.2.2⟩
section ZX
variable {Y : zY} {S : zS} {pc q : Nat} {ls st : List zV} {M : zM} {bc bs : Nat} {Q : zV → zS → zM → Prop}
theorem z_Xof {C : zC} {s : State} {H : Heap} {locs : List Loc} {k : Int} (hP : va_P C.2.2.1 z_cl (z_W C S M) H) (hS : va_S (z_A C) s.heap H locs) (hok : z_okM S M) (hS1 : S.1 = false) (hQ : Q (8, k) S M) :
    ∀ t : State, s.vm.Alike t.vm → H.size ≤ t.heap.size → (∀ q : Nat, q < H.size → t.heap[q]? = H[q]?) → z_X C Q (z_ex k) s t := by
  intro t _ h1 h2
  refine ⟨⟨k, S, M, rfl, hQ, hP.kept (fun j x hx => h2 _ ((hP j x hx).lt)), (fun h => by rw [hS1] at h; cases h), hok⟩, Nat.le_trans hS.1 h1, fun x hx hA => ?_⟩
  rw [h2 x (Nat.lt_of_lt_of_le hx hS.1)]
  exact hS.2.1 x hx hA
theorem zr_throwS {ik is ic i : Nat} {k : Int} {names : List String} {text : String} (F : z_Thr ik ic k names) (ho : Y.1.cls = "WindElection") (hi : i < 38) (hsn : z_sn.getD i default = ("WindElection", is, text)) (hS1 : S.1 = false)
    (d0 : decode Y.2.1 pc = .ok (.new ik, 3)) (d3 : decode Y.2.1 (pc + 3) = .ok (.dup, 1)) (d4 : decode Y.2.1 (pc + 4) = .ok (.ldc is, 2)) (d6 : decode Y.2.1 (pc + 6) = .ok (.invokespecial ic, 3)) (d9 : decode Y.2.1 (pc + 9) = .ok (.athrow, 1))
    (hfr : names.length + 3 < Y.2.2.2.2.1.1 ∧ Y.2.2.2.2.2.2.2.1 = []) (hst : z_one st = true) (hlo : st.length + (13 * (names.length + 1) + 43) ≤ Y.2.2.2.2.1.2) (hb1 : 1 ≤ bc) (hb2 : 6 ≤ bs) (hQ : Q (8, k) S M) : z_Ex Y S pc ls st M bc bs Q := by
  intro C p l e s m args below meth cc H locs cells slots lsA F0' St
  obtain ⟨hx, hb, hr9, hml, hown, hts, hnm, hlk, hex, hst9, hbase, hK, hKC, hCX⟩ := id F0'
  obtain ⟨hl, hP, hS, hsz, hokM, hokl, hoks, hc1, hc2⟩ := id St
  obtain ⟨f1, f2, f3⟩ := F
  rw [ho] at hown
  have hw : ∀ w ∈ z_thr ik ic (z_ex k) names, w.before args s = true := fun w h => z_ot_of (f3 w h).2.1 (f3 w h).2.2 (f3 w h).1 hts hKC.1
  have hstr := hKC.1.2.1 i hi
  rw [hsn] at hstr
  refine vx_throwS (A := z_A C) hx hb hst9 hown f1 f2 (hw _ List.mem_cons_self) (hw _ (List.mem_cons_of_mem _ List.mem_cons_self)) hstr (fun w h => hw w (List.mem_cons_of_mem _ (List.mem_cons_of_mem _ h))) (fun w h => (f3 w h).2.2) hKC.2.1 hKC.2.2.1 hS (hl.1.trans hml.symm) d0 d3 d4 d6 d9 (fun x h => (z_tabNo hfr.2 hex x h).elim) hfr.1 (by rw [z_one_sum hst]; exact hlo) ?_ ?_ hlk (z_Xof hP hS hokM hS1 hQ) hS.2.2 (by omega) (by omega)
  · show cells + 1 ≤ Y.2.2.2.2.2.1; omega
  · show slots + 6 ≤ Y.2.2.2.2.2.2.1; omega
theorem zr_throwSW {ik is ic i : Nat} {k : Int} {names : List String} {text : String} (F : z_Thr ik ic k names) (ho : Y.1.cls = "WindElection") (hi : i < 38) (hsn : z_sn.getD i default = ("WindElection", is, text)) (hS1 : S.1 = false)
    (d0 : decode Y.2.1 pc = .ok (.new ik, 3)) (d3 : decode Y.2.1 (pc + 3) = .ok (.dup, 1)) (d4 : decode Y.2.1 (pc + 4) = .ok (.ldc_w is, 3)) (d6 : decode Y.2.1 (pc + 7) = .ok (.invokespecial ic, 3)) (d9 : decode Y.2.1 (pc + 10) = .ok (.athrow, 1))
    (hfr : names.length + 3 < Y.2.2.2.2.1.1 ∧ Y.2.2.2.2.2.2.2.1 = []) (hst : z_one st = true) (hlo : st.length + (13 * (names.length + 1) + 43) ≤ Y.2.2.2.2.1.2) (hb1 : 1 ≤ bc) (hb2 : 6 ≤ bs) (hQ : Q (8, k) S M) : z_Ex Y S pc ls st M bc bs Q := by
  intro C p l e s m args below meth cc H locs cells slots lsA F0' St
  obtain ⟨hx, hb, hr9, hml, hown, hts, hnm, hlk, hex, hst9, hbase, hK, hKC, hCX⟩ := id F0'
  obtain ⟨hl, hP, hS, hsz, hokM, hokl, hoks, hc1, hc2⟩ := id St
  obtain ⟨f1, f2, f3⟩ := F
  rw [ho] at hown
  have hw : ∀ w ∈ z_thr ik ic (z_ex k) names, w.before args s = true := fun w h => z_ot_of (f3 w h).2.1 (f3 w h).2.2 (f3 w h).1 hts hKC.1
  have hstr := hKC.1.2.1 i hi
  rw [hsn] at hstr
  refine vx_throwSW (A := z_A C) hx hb hst9 hown f1 f2 (hw _ List.mem_cons_self) (hw _ (List.mem_cons_of_mem _ List.mem_cons_self)) hstr (fun w h => hw w (List.mem_cons_of_mem _ (List.mem_cons_of_mem _ h))) (fun w h => (f3 w h).2.2) hKC.2.1 hKC.2.2.1 hS (hl.1.trans hml.symm) d0 d3 d4 d6 d9 (fun x h => (z_tabNo hfr.2 hex x h).elim) hfr.1 (by rw [z_one_sum hst]; exact hlo) ?_ ?_ hlk (z_Xof hP hS hokM hS1 hQ) hS.2.2 (by omega) (by omega)
  · show cells + 1 ≤ Y.2.2.2.2.2.1; omega
  · show slots + 6 ≤ Y.2.2.2.2.2.2.1; omega
/-- a call that never throws, in the kit's plain form -/
theorem z_met {Y : zY} {as : List zV} {P : zV → zS → zM → Prop} (h : z_Call Y S as M P) (hno : ∀ k S M, ¬ P (8, k) S M) (C : zC) (l : Launch) (hl : l.stackTraces = false) (hok : ∀ v ∈ as, z_ok v) :
    Met l Y.1 (z_wsY Y) (z_rm Y) (va_Pc (as.map (z_cv C)) (z_B C S M)) (z_Q C P) Y.2.2.2.2.2.1 Y.2.2.2.2.2.2.1 (z_A C) := by
  intro p e a1 a2 a3 s m args below h1 h2 h3 h4
  obtain ⟨n, o, x1, x2, x3, x4⟩ := h C l hl hok p e a1 a2 a3 s m args below h1 h2 h3 h4
  refine ⟨n, o, x1, x2, x3, ?_⟩
  rcases x4 with x4 | ⟨q, ho, E, ce, L, ⟨⟨k, S1, M1, g1, g2, g3⟩, hF⟩, hr⟩
  · exact x4
  · exact absurd g2 (hno _ _ _)
theorem z_behindN {Y' : zY} {P : zV → zS → zM → Prop} {C : zC} {p : Program} {l : Launch} {e : Env} {s : State} {m : MethodId} {args : Array Value} {below : List Frame} {meth : Method} {cc : Code} {H : Heap} {locs : List Loc} {cells slots : Nat} {lsA : Array Slot} {st0 : List Value} {a : Array Value}
    (F : z_Fix Y C p l s m args meth cc) (St : z_St Y C S s ls st M H locs lsA cells slots bc bs) (hmc : Y'.2.2.2.2.2.1 ≤ bc) (hms : Y'.2.2.2.2.2.2.1 ≤ bs)
    (hr : va_Run p l e (z_rm Y) s m args below meth cc H locs cells slots Y'.2.2.2.2.2.1 Y'.2.2.2.2.2.2.1 (F0 m pc lsA st0) (st.map (z_cv C)) (z_Q C P a) (z_A C))
    (kn : ∀ r S' M', r.1 ≠ 8 → P r S' M' → z_Ex Y S' (pc + 3) ls (z_ps r st) M' (bc - Y'.2.2.2.2.2.1) (bs - Y'.2.2.2.2.2.2.1) Q) :
    W p l e (z_rm Y) s m args below meth cc H locs cells slots (z_MQ Y C below Q args s) (F0 m pc lsA st0) := by
  obtain ⟨hx, hb, hr9, hml, hown, hts, hnm, hlk, hex, hst, hbase, hK, hKC, hCX⟩ := id F
  obtain ⟨hl, hP, hS, hsz, hokM, hokl, hoks, hc1, hc2⟩ := id St
  intro T hT X
  obtain ⟨v, st₀, t, T', L, h0, X', hL, e1, e2, ⟨⟨r, S', M', ho, h8, hok, hPr, hP1, hsz1, hok1⟩, hF⟩, stp⟩ := hr T hT X
  obtain ⟨k1, k2, k3⟩ := vx_keep (A0 := z_A C) (A1 := z_A C) h0 e1 hS (fun _ _ h => h) (fun _ h => h) hL hF
  have hv : v = z_ret C r := Outcome.returned.inj ho
  have w1 := kn r S' M' h8 hPr C p l e s m args below meth cc T'.heap (locs ++ L) (cells + Y'.2.2.2.2.2.1) (slots + Y'.2.2.2.2.2.2.1) lsA F ⟨hl, by rw [e1]; exact hP1, k3, by rw [e1]; exact hsz1, hok1, hokl, (by
    unfold z_ps
    split
    · exact hoks
    · exact z_okc hok hoks), by omega, by omega⟩
  rw [z_ps_map, ← hv] at w1
  obtain ⟨t2, a1, b1⟩ := w1 T' rfl X'
  exact ⟨t2, stp t2 a1, b1⟩
/-- a constructor -/
theorem zr_ctor {Y' : zY} {P : zV → zS → zM → Prop} {as : List zV} {z : Int} {idx n : Nat} (hc : z_Call Y' S ((1, z) :: as) M P) (hno : ∀ k S M, ¬ P (8, k) S M) (hY : z_Mth Y' n) (hret : Y'.2.2.2.1 = none) (hin : Y'.1.name = "<init>") (hi : Cond.instanceMethod Y'.1 ∈ z_all) (hl9 : Cond.methodLink Y.1.cls idx Y'.1 ∈ z_all)
    (hd : decode Y.2.1 pc = .ok (.invokespecial idx, 3)) (hq : pc + 3 = q) (hn : as.length = n) (hrm : z_rmle Y Y') (h1 : 0 < z) (hst : z_one st = true) (hsl : st.length ≤ 8) (hmc : Y'.2.2.2.2.2.1 ≤ bc) (hms : Y'.2.2.2.2.2.2.1 ≤ bs)
    (kn : ∀ r S' M', r.1 ≠ 8 → P r S' M' → z_Ex Y S' q ls (z_ps r st) M' (bc - Y'.2.2.2.2.2.1) (bs - Y'.2.2.2.2.2.2.1) Q) : z_Ex Y S pc ls (as.reverse ++ (1, z) :: st) M bc bs Q := by
  intro C p l e s m args below meth cc H locs cells slots lsA F St
  obtain ⟨hx, hb, hr9, hml, hown, hts, hnm, hlk, hex, hst9, hbase, hK, hKC, hCX⟩ := id F
  obtain ⟨hl, hP, hS, hsz, hokM, hokl, hoks, hc1, hc2⟩ := id St
  subst hq
  have hoka : ∀ v ∈ (1, z) :: as, z_ok v := by
    intro v hv
    rcases List.mem_cons.mp hv with h | h
    · exact hoks v (by rw [h]; exact List.mem_append_right _ List.mem_cons_self)
    · exact hoks v (List.mem_append_left _ (List.mem_reverse.mpr h))
  have hM := z_met hc hno C l hst9 hoka
  have hok9 : ∀ v ∈ st, z_ok v := fun v hv => hoks v (List.mem_append_right _ (List.mem_cons_of_mem _ hv))
  have estk : (as.reverse ++ (1, z) :: st).map (z_cv C) = (as.map (z_cv C)).reverse ++ .ref (C.1 + (z.toNat - 1)) :: st.map (z_cv C) := by
    rw [List.map_append, List.map_reverse, List.map_cons]
    congr 2
    exact z_rf_pos h1
  have ea : ((1, z) :: as).map (z_cv C) = Value.ref (C.1 + (z.toNat - 1)) :: as.map (z_cv C) := by
    rw [List.map_cons]
    congr 1
    exact z_rf_pos h1
  have hpre := z_pre (as := (1, z) :: as) hP hS hsz hokM hbase hK hKC
  rw [estk]
  rw [ea] at hM hpre
  have hc0 : z_wsY Y' = Cond.code Y'.1 Y'.2.1 Y'.2.2.1 none :: z_all := by unfold z_wsY; rw [hret]
  have hG : GoodIn z_all (z_wsY Y') := z_goodY hY.1
  have cw := cwI (R := z_rm Y) (own := Y.1.cls) (index := idx) (y := Y'.1) (bytes := Y'.2.1) (maxL := Y'.2.2.1) (mc := Y'.2.2.2.2.2.1) (ms := Y'.2.2.2.2.2.2.1) (rm := z_rm Y') n hts hG hc0 rfl rfl (hts _ hY.2.1) (hts _ hl9) (hts _ hi) hin hY.2.2 ⟨hrm.1, hrm.2.1⟩
  have hr := va_runI (H := H) (locs := locs) (cells := cells) (slots := slots) (e := e) (below := below) (meth := meth) (rest := st.map (z_cv C)) (g := F0 m pc lsA ((as.map (z_cv C)).reverse ++ .ref (C.1 + (z.toNat - 1)) :: st.map (z_cv C))) ⟨hx, hb, hml, hown, hts⟩ hM cw ⟨z_B_blind, hpre⟩ rfl (by rw [List.length_map]; exact hn) hl.1 rfl (lv_room (by rw [z_one_sum hst]; exact hsl)) hd ⟨(by show cells + _ ≤ Y.2.2.2.2.2.1; omega), (by show slots + _ ≤ Y.2.2.2.2.2.2.1; omega)⟩
  exact z_behindN (st := st) F ⟨hl, hP, hS, hsz, hokM, hokl, hok9, hc1, hc2⟩ hmc hms hr kn
/-- a private constructor of a nest mate -/
theorem zr_ctorN {Y' : zY} {P : zV → zS → zM → Prop} {as : List zV} {z : Int} {idx n : Nat} {host : String} (hc : z_Call Y' S ((1, z) :: as) M P) (hno : ∀ k S M, ¬ P (8, k) S M) (hY : z_Mth Y' n) (hret : Y'.2.2.2.1 = none) (hin : Y'.1.name = "<init>") (hi : Cond.instanceMethod Y'.1 ∈ z_all) (hl9 : Cond.methodLinkNest Y.1.cls idx Y'.1 host ∈ lw_tbl)
    (hd : decode Y.2.1 pc = .ok (.invokespecial idx, 3)) (hq : pc + 3 = q) (hn : as.length = n) (hrm : z_rmle Y Y') (h1 : 0 < z) (hst : z_one st = true) (hsl : st.length ≤ 8) (hmc : Y'.2.2.2.2.2.1 ≤ bc) (hms : Y'.2.2.2.2.2.2.1 ≤ bs)
    (kn : ∀ r S' M', r.1 ≠ 8 → P r S' M' → z_Ex Y S' q ls (z_ps r st) M' (bc - Y'.2.2.2.2.2.1) (bs - Y'.2.2.2.2.2.2.1) Q) : z_Ex Y S pc ls (as.reverse ++ (1, z) :: st) M bc bs Q := by
  intro C p l e s m args below meth cc H locs cells slots lsA F St
  obtain ⟨hx, hb, hr9, hml, hown, hts, hnm, hlk, hex, hst9, hbase, hK, hKC, hCX⟩ := id F
  obtain ⟨hl, hP, hS, hsz, hokM, hokl, hoks, hc1, hc2⟩ := id St
  subst hq
  have hoka : ∀ v ∈ (1, z) :: as, z_ok v := by
    intro v hv
    rcases List.mem_cons.mp hv with h | h
    · exact hoks v (by rw [h]; exact List.mem_append_right _ List.mem_cons_self)
    · exact hoks v (List.mem_append_left _ (List.mem_reverse.mpr h))
  have hM := z_met hc hno C l hst9 hoka
  have hok9 : ∀ v ∈ st, z_ok v := fun v hv => hoks v (List.mem_append_right _ (List.mem_cons_of_mem _ hv))
  have estk : (as.reverse ++ (1, z) :: st).map (z_cv C) = (as.map (z_cv C)).reverse ++ .ref (C.1 + (z.toNat - 1)) :: st.map (z_cv C) := by
    rw [List.map_append, List.map_reverse, List.map_cons]
    congr 2
    exact z_rf_pos h1
  have ea : ((1, z) :: as).map (z_cv C) = Value.ref (C.1 + (z.toNat - 1)) :: as.map (z_cv C) := by
    rw [List.map_cons]
    congr 1
    exact z_rf_pos h1
  have hpre := z_pre (as := (1, z) :: as) hP hS hsz hokM hbase hK hKC
  rw [estk]
  rw [ea] at hM hpre
  have hc0 : z_wsY Y' = Cond.code Y'.1 Y'.2.1 Y'.2.2.1 none :: z_all := by unfold z_wsY; rw [hret]
  have cw := va_cnB (R := z_rm Y) (own := Y.1.cls) (index := idx) (y := Y'.1) (host := host) (bytes := Y'.2.1) (maxL := Y'.2.2.1) (mc := Y'.2.2.2.2.2.1) (ms := Y'.2.2.2.2.2.2.1) (rm := z_rm Y') n hts (z_goodY hY.1) hc0 rfl rfl (hKC.1.1 _ hl9 rfl) (hts _ hY.2.1) hY.2.2 ⟨hrm.1, hrm.2.1⟩
  have hr := va_runIN (H := H) (locs := locs) (cells := cells) (slots := slots) (e := e) (below := below) (meth := meth) (rest := st.map (z_cv C)) (g := F0 m pc lsA ((as.map (z_cv C)).reverse ++ .ref (C.1 + (z.toNat - 1)) :: st.map (z_cv C))) ⟨hx, hb, hml, hown, hts⟩ hM ⟨cw, hin, hts _ hi⟩ ⟨z_B_blind, hpre⟩ rfl (by rw [List.length_map]; exact hn) hl.1 rfl (lv_room (by rw [z_one_sum hst]; exact hsl)) hd ⟨(by show cells + _ ≤ Y.2.2.2.2.2.1; omega), (by show slots + _ ≤ Y.2.2.2.2.2.2.1; omega)⟩
  exact z_behindN (st := st) F ⟨hl, hP, hS, hsz, hokM, hokl, hok9, hc1, hc2⟩ hmc hms hr kn
/-- a private static method of a nest mate -/
theorem zr_callSN {Y' : zY} {P : zV → zS → zM → Prop} {as : List zV} {idx n : Nat} {host : String} (hc : z_Call Y' S as M P) (hno : ∀ k S M, ¬ P (8, k) S M) (hY : z_Mth Y' n) (hi : Cond.static Y'.1 ∈ z_all) (hl9 : Cond.methodLinkNest Y.1.cls idx Y'.1 host ∈ lw_tbl)
    (hd : decode Y.2.1 pc = .ok (.invokestatic idx, 3)) (hq : pc + 3 = q) (hn : as.length = n) (hrm : z_rmle Y Y') (hst : z_one st = true) (hsl : st.length ≤ 8) (hmc : Y'.2.2.2.2.2.1 ≤ bc) (hms : Y'.2.2.2.2.2.2.1 ≤ bs)
    (kn : ∀ r S' M', r.1 ≠ 8 → P r S' M' → z_Ex Y S' q ls (z_ps r st) M' (bc - Y'.2.2.2.2.2.1) (bs - Y'.2.2.2.2.2.2.1) Q) : z_Ex Y S pc ls (as.reverse ++ st) M bc bs Q := by
  intro C p l e s m args below meth cc H locs cells slots lsA F St
  obtain ⟨hx, hb, hr9, hml, hown, hts, hnm, hlk, hex, hst9, hbase, hK, hKC, hCX⟩ := id F
  obtain ⟨hl, hP, hS, hsz, hokM, hokl, hoks, hc1, hc2⟩ := id St
  subst hq
  have hM := z_met hc hno C l hst9 (fun v hv => hoks v (List.mem_append_left _ (List.mem_reverse.mpr hv)))
  have hok9 : ∀ v ∈ st, z_ok v := fun v hv => hoks v (List.mem_append_right _ hv)
  have estk : (as.reverse ++ st).map (z_cv C) = (as.map (z_cv C)).reverse ++ st.map (z_cv C) := by
    rw [List.map_append, List.map_reverse]
  have hpre := z_pre (as := as) hP hS hsz hokM hbase hK hKC
  rw [estk]
  have cw := va_cnB (R := z_rm Y) (own := Y.1.cls) (index := idx) (y := Y'.1) (host := host) (bytes := Y'.2.1) (maxL := Y'.2.2.1) (ret := Y'.2.2.2.1) (mc := Y'.2.2.2.2.2.1) (ms := Y'.2.2.2.2.2.2.1) (rm := z_rm Y') n hts (z_goodY hY.1) rfl rfl rfl (hKC.1.1 _ hl9 rfl) (hts _ hY.2.1) hY.2.2 ⟨hrm.1, hrm.2.1⟩
  have hr := va_runSN (H := H) (locs := locs) (cells := cells) (slots := slots) (e := e) (below := below) (meth := meth) (rest := st.map (z_cv C)) (g := F0 m pc lsA ((as.map (z_cv C)).reverse ++ st.map (z_cv C))) ⟨hx, hb, hml, hown, hts⟩ hM ⟨cw, hts _ hi, trivial⟩ ⟨z_B_blind, hpre⟩ rfl (by rw [List.length_map]; exact hn) hl.1 rfl (lv_room (by rw [z_one_sum hst]; exact hsl)) hd ⟨(by show cells + _ ≤ Y.2.2.2.2.2.1; omega), (by show slots + _ ≤ Y.2.2.2.2.2.2.1; omega)⟩
  exact z_behindN (st := st) F ⟨hl, hP, hS, hsz, hokM, hokl, hok9, hc1, hc2⟩ hmc hms hr kn
/-- Object's constructor -/
theorem zr_objInit {idx : Nat} {z : Int} (hd : decode Y.2.1 pc = .ok (.invokespecial idx, 3)) (hq : pc + 3 = q) (h1 : 0 < z) (w1 : Cond.methodLink Y.1.cls idx Lib.objectInit ∈ z_all) (w2 : Cond.instanceMethod Lib.objectInit ∈ z_all) (w3 : Cond.code Lib.objectInit ⟨#[0xb1]⟩ 1 none ∈ z_all) (hfr : 1 ≤ Y.2.2.2.2.1.1) (hst : z_one st = true) (hlo : st.length + 12 ≤ Y.2.2.2.2.1.2)
    (kk : z_Ex Y S q ls st M bc bs Q) : z_Ex Y S pc ls ((1, z) :: st) M bc bs Q := by
  intro C p l e s m args below meth cc H locs cells slots lsA F St
  obtain ⟨hx, hb, hr9, hml, hown, hts, hnm, hlk, hex, hst9, hbase, hK, hKC, hCX⟩ := id F
  obtain ⟨hl, hP, hS, hsz, hokM, hokl, hoks, hc1, hc2⟩ := id St
  subst hq
  show W _ _ _ _ _ _ _ _ _ _ _ _ _ _ _ (F0 m pc lsA (va_rf (z_rf C z) :: st.map (z_cv C)))
  rw [z_rf_pos h1]
  refine W.objInit (g := F0 m pc lsA (.ref (C.1 + (z.toNat - 1)) :: st.map (z_cv C))) hx hb hown (hts _ w1) (hts _ w2) (hts _ w3) rfl (hl.1.trans hml.symm) rfl hd hfr ?_ ?_
  · show 2 * 0 + ((st.map (z_cv C)).map fun v => v.category).sum + 12 ≤ Y.2.2.2.2.1.2
    rw [z_one_sum hst]; omega
  · exact kk C p l e s m args below meth cc H locs cells slots lsA F ⟨hl, hP, hS, hsz, hokM, hokl, (z_ok1 hoks).2, hc1, hc2⟩
/-! constants -/
theorem zr_gets {Cn n d : String} {v : zV} {idx : Nat} (hZ : ∀ (C : zC) (s : State), z_KH C s s.heap → va_Z Cn n d (z_cv C v) (z_A C) s s.heap) (hv : z_ok v) (w1 : Cond.fieldLink Y.1.cls idx Cn n d ∈ z_all) (hd : decode Y.2.1 pc = .ok (.getstatic idx, 3)) (hq : pc + 3 = q)
    (kk : z_Ex Y S q ls (v :: st) M bc bs Q) : z_Ex Y S pc ls st M bc bs Q := by
  intro C p l e s m args below meth cc H locs cells slots lsA F St
  obtain ⟨hx, hb, hr9, hml, hown, hts, hnm, hlk, hex, hst9, hbase, hK, hKC, hCX⟩ := id F
  obtain ⟨hl, hP, hS, hsz, hokM, hokl, hoks, hc1, hc2⟩ := id St
  subst hq
  exact va_gets hx hb (hZ C s hKC.2) hS hown (hts _ w1) (fun _ h => h) hd (kk C p l e s m args below meth cc H locs cells slots lsA F ⟨hl, hP, hS, hsz, hokM, hokl, z_okc hv hoks, hc1, hc2⟩)
theorem zr_getsN {Cn n d host : String} {v : zV} {idx : Nat} (hZ : ∀ (C : zC) (s : State), z_KH C s s.heap → va_Z Cn n d (z_cv C v) (z_A C) s s.heap) (hv : z_ok v) (w1 : Cond.fieldLinkNest Y.1.cls idx Cn n d host ∈ lw_tbl) (hd : decode Y.2.1 pc = .ok (.getstatic idx, 3)) (hq : pc + 3 = q)
    (kk : z_Ex Y S q ls (v :: st) M bc bs Q) : z_Ex Y S pc ls st M bc bs Q := by
  intro C p l e s m args below meth cc H locs cells slots lsA F St
  obtain ⟨hx, hb, hr9, hml, hown, hts, hnm, hlk, hex, hst9, hbase, hK, hKC, hCX⟩ := id F
  obtain ⟨hl, hP, hS, hsz, hokM, hokl, hoks, hc1, hc2⟩ := id St
  subst hq
  exact va_getsN hx hb (hZ C s hKC.2) hS hown (va_Nw.use rfl (hKC.1.1 _ w1 rfl)) (fun _ h => h) hd (kk C p l e s m args below meth cc H locs cells slots lsA F ⟨hl, hP, hS, hsz, hokM, hokl, z_okc hv hoks, hc1, hc2⟩)
theorem z_rf_neg {C : zC} {k : Nat} (h : 0 < k) : z_rf C (-(k : Int)) = some (C.2.1 k) := by
  unfold z_rf
  rw [if_neg (by omega), if_neg (by omega), show (-(-(k : Int))).toNat = k by omega]
theorem z_cv_neg {C : zC} {k : Nat} (h : 0 < k) : z_cv C (1, -(k : Int)) = .ref (C.2.1 k) := by
  show va_rf (z_rf C (-(k : Int))) = _
  rw [z_rf_neg h]
  rfl
theorem zr_getO {o n d ref : String} {v : zV} {idx k : Nat} {z : Int} (hz : z = -(k : Int)) (hk : 0 < k) (hO : ∀ (C : zC) (s : State), z_KH C s s.heap → va_OF o n d (z_cv C v) (C.2.1 k) (z_A C) s s.heap) (hv : z_ok v) (w1 : Cond.fieldLink Y.1.cls idx o n d ∈ z_all) (hd : decode Y.2.1 pc = .ok (.getfield idx, 3)) (hq : pc + 3 = q)
    (kk : z_Ex Y S q ls (v :: st) M bc bs Q) : z_Ex Y S pc ls ((1, z) :: st) M bc bs Q := by
  intro C p l e s m args below meth cc H locs cells slots lsA F St
  obtain ⟨hx, hb, hr9, hml, hown, hts, hnm, hlk, hex, hst9, hbase, hK, hKC, hCX⟩ := id F
  obtain ⟨hl, hP, hS, hsz, hokM, hokl, hoks, hc1, hc2⟩ := id St
  subst hq; subst hz
  rw [List.map_cons, z_cv_neg hk]
  exact vk_getf hx hb (hO C s hKC.2) hS hown (hts _ w1) (fun _ h => h) hd (kk C p l e s m args below meth cc H locs cells slots lsA F ⟨hl, hP, hS, hsz, hokM, hokl, z_okc hv (z_ok1 hoks).2, hc1, hc2⟩)
theorem z_rf_inj {C : zC} {x y : Int} (h : x ≠ y → z_rf C x ≠ z_rf C y) : z_rf C x = z_rf C y ↔ x = y := ⟨fun e => Classical.byContradiction fun n => h n e, fun e => by rw [e]⟩
theorem zr_acmp_ne {x y off : Int} {q2 : Nat} (hinj : x ≠ y → ∀ (C : zC) (s : State), z_KH C s s.heap → z_rf C x ≠ z_rf C y) (hd : decode Y.2.1 pc = .ok (.if_acmp .ne off, 3)) (hq : (pc : Int) + off = (q : Int)) (hq2 : pc + 3 = q2) (kt : x ≠ y → z_Ex Y S q ls st M bc bs Q) (kf : x = y → z_Ex Y S q2 ls st M bc bs Q) : z_Ex Y S pc ls ((1, y) :: (1, x) :: st) M bc bs Q := by
  intro C p l e s m args below meth cc H locs cells slots lsA F St
  obtain ⟨hx, hb, hr9, hml, hown, hts, hnm, hlk, hex, hst9, hbase, hK, hKC, hCX⟩ := id F
  obtain ⟨hl, hP, hS, hsz, hokM, hokl, hoks, hc1, hc2⟩ := id St
  subst hq2
  refine lv_acmp_ne hx hb (rx := z_rf C x) (ry := z_rf C y) hd hq (fun c => ?_) (fun c => ?_)
  · exact kt (fun e => c (by rw [e])) C p l e s m args below meth cc H locs cells slots lsA F ⟨hl, hP, hS, hsz, hokM, hokl, (z_ok2 hoks).2.2, hc1, hc2⟩
  · exact kf (Classical.byContradiction fun n => hinj n C s hKC.2 c) C p l e s m args below meth cc H locs cells slots lsA F ⟨hl, hP, hS, hsz, hokM, hokl, (z_ok2 hoks).2.2, hc1, hc2⟩
theorem zr_acmp_eq {x y off : Int} {q2 : Nat} (hinj : x ≠ y → ∀ (C : zC) (s : State), z_KH C s s.heap → z_rf C x ≠ z_rf C y) (hd : decode Y.2.1 pc = .ok (.if_acmp .eq off, 3)) (hq : (pc : Int) + off = (q : Int)) (hq2 : pc + 3 = q2) (kt : x = y → z_Ex Y S q ls st M bc bs Q) (kf : x ≠ y → z_Ex Y S q2 ls st M bc bs Q) : z_Ex Y S pc ls ((1, y) :: (1, x) :: st) M bc bs Q := by
  intro C p l e s m args below meth cc H locs cells slots lsA F St
  obtain ⟨hx, hb, hr9, hml, hown, hts, hnm, hlk, hex, hst9, hbase, hK, hKC, hCX⟩ := id F
  obtain ⟨hl, hP, hS, hsz, hokM, hokl, hoks, hc1, hc2⟩ := id St
  subst hq2
  refine lv_acmp_eq hx hb (rx := z_rf C x) (ry := z_rf C y) hd hq (fun c => ?_) (fun c => ?_)
  · exact kt (Classical.byContradiction fun n => hinj n C s hKC.2 c) C p l e s m args below meth cc H locs cells slots lsA F ⟨hl, hP, hS, hsz, hokM, hokl, (z_ok2 hoks).2.2, hc1, hc2⟩
  · exact kf (fun e => c (by rw [e])) C p l e s m args below meth cc H locs cells slots lsA F ⟨hl, hP, hS, hsz, hokM, hokl, (z_ok2 hoks).2.2, hc1, hc2⟩
theorem zr_tableIn {dflt lo hi : Int} {offs : Array Int} {len : Nat} {x off : Int} (hd : decode Y.2.1 pc = .ok (.tableswitch dflt lo hi offs, len)) (h1 : lo ≤ x) (h2 : x ≤ hi) (ho : offs[(x - lo).toNat]? = some off) (hq : (pc : Int) + off = (q : Int)) (kk : z_Ex Y S q ls st M bc bs Q) : z_Ex Y S pc ls ((0, x) :: st) M bc bs Q :=
  zr_st (fun _ h => (z_ok1 h).2) (fun _ h C p l e s m args below meth c H locs cells slots lsA Z hx hb hl k => by
    have e1 := zn_lo (z_oki (z_ok1 h).1)
    exact lv_tableIn (x := Int32.ofInt x) hx hb hd (by rw [e1]; omega) (by rw [e1]; omega) (by rw [e1]; exact ho) hq k) kk
theorem zr_tableOut {dflt lo hi : Int} {offs : Array Int} {len : Nat} {x : Int} (hd : decode Y.2.1 pc = .ok (.tableswitch dflt lo hi offs, len)) (h1 : x < lo ∨ hi < x) (hq : (pc : Int) + dflt = (q : Int)) (kk : z_Ex Y S q ls st M bc bs Q) : z_Ex Y S pc ls ((0, x) :: st) M bc bs Q :=
  zr_st (fun _ h => (z_ok1 h).2) (fun _ h C p l e s m args below meth c H locs cells slots lsA Z hx hb hl k => by
    have e1 := zn_lo (z_oki (z_ok1 h).1)
    exact lv_tableOut (x := Int32.ofInt x) hx hb hd (by rw [e1]; exact h1) hq k) kk
end ZX
