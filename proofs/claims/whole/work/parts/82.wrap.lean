/-! dep: 80 81 -/
/-! ===== methods with handlers: what a catch does ===== -/
def z_wsH (Y : zY) : List Cond := .codeWith Y.1 Y.2.1 Y.2.2.1 Y.2.2.2.1 Y.2.2.2.2.2.2.2.1 :: z_all
/-- a method with handlers, called -/
def z_CallH (Y : zY) (S : zS) (as : List zV) (M : zM) (Q : zV → zS → zM → Prop) : Prop :=
  ∀ (C : zC) (l : Launch), l.stackTraces = false → (∀ v ∈ as, z_ok v) → vx_Met l Y.1 (z_wsH Y) (z_rm Y) (va_Pc (as.map (z_cv C)) (z_B C S M)) (z_Q C Q) (z_X C Q) Y.2.2.2.2.2.1 Y.2.2.2.2.2.2.1 (z_A C)
theorem z_enterH {Y : zY} {S : zS} {M : zM} {Q : zV → zS → zM → Prop} {as : List zV} {k : Nat} (hp : plainName Y.1.cls = true) (h1 : z_one as = true) (hk : as.length + k = Y.2.2.1)
    (body : z_Ex Y S 0 (as ++ List.replicate k (9, 0)) [] M Y.2.2.2.2.2.1 Y.2.2.2.2.2.2.1 Q) (hK9 : ∀ C s, Y.2.2.2.2.2.2.2.2 C s := by exact fun _ _ => trivial) : z_CallH Y S as M Q := by
  intro C l hl hok
  refine vx_ofWH (cc := Y.2.1) (maxL := Y.2.2.1) (ret := Y.2.2.2.1) (hh := Y.2.2.2.2.2.2.2.1) hp rfl ?_
  intro p e s m args below meth c s₁ B hml hv
  obtain ⟨rfl, ⟨hP, hsz, hokM⟩, hbase, hK, hKC⟩ := hv
  have hts := atoms_spec (ws := z_wsH Y) B.pre
  have hex := vx_table (y := Y.1) (bytes := Y.2.1) (maxL' := Y.2.2.1) (ret' := Y.2.2.2.1) (x := Y.1) B (hts _ List.mem_cons_self)
  rw [lg_entry_eq]
  have hle := lv_entry (as.map (z_cv C)) (n := Y.2.2.1) (by rw [z_sl_len h1]; omega)
  refine body C p l e s m _ below meth c s.heap [] 0 0 _ ⟨B.exec, B.bytes, B.returns, hml, findClass_of_methodNamed B.named, fun w hw => hts w (List.mem_cons_of_mem _ hw), (name_of_methodNamed B.named B.method).1, B.notSynchronized, hex, hl, hbase, hK, hKC, hK9 C s⟩ ⟨z_has_sub hle ?_, hP, va_S.rf, hsz, hokM, ?_, (fun v hv => by cases hv), by omega, by omega⟩
  · intro q hq
    obtain ⟨w, g1, g2, g3⟩ := z_lv_of hq
    by_cases hi : q.1 < as.length
    · rw [List.getElem?_append_left hi] at g1
      have := z_lv_entry (C := C) h1 0 q.1 w g1
      rw [Nat.zero_add, ← g3] at this
      exact this
    · rw [List.getElem?_append_right (by omega)] at g1
      have := List.mem_of_getElem? g1
      have := List.eq_of_mem_replicate this
      rw [this] at g2
      exact absurd rfl g2
  · intro v hv
    rcases List.mem_append.mp hv with h | h
    · exact hok v h
    · rw [List.eq_of_mem_replicate h]
      exact fun h => absurd h (show ¬ (9 : Nat) ≤ 2 by decide)
theorem z_callH_mono {Y : zY} {S : zS} {M : zM} {as : List zV} {P Q : zV → zS → zM → Prop} (h : z_CallH Y S as M P) (hpq : ∀ r S M, P r S M → Q r S M) : z_CallH Y S as M Q := by
  intro C l hl hok p e a1 a2 a3 s m args below h1 h2 h3 h4
  obtain ⟨n, o, x1, x2, x3, x4⟩ := h C l hl hok p e a1 a2 a3 s m args below h1 h2 h3 h4
  refine ⟨n, o, x1, x2, x3, ?_⟩
  rcases x4 with ⟨⟨⟨r, S1, M1, g1, g2, g3, g4, g5⟩, hF⟩, hL⟩ | ⟨q, ho, E, ce, L, ⟨⟨k, S1, M1, g1, g2, g3⟩, hF⟩, hr⟩
  · exact Or.inl ⟨⟨⟨r, S1, M1, g1, g2, g3, hpq _ _ _ g4, g5⟩, hF⟩, hL⟩
  · exact Or.inr ⟨q, ho, E, ce, L, ⟨⟨k, S1, M1, g1, hpq _ _ _ g2, g3⟩, hF⟩, hr⟩
section ZWR
variable {Y : zY} {S : zS} {pc q : Nat} {ls st : List zV} {M : zM} {bc bs : Nat} {Q : zV → zS → zM → Prop}
/-- exception k is caught here: its handler stores it and goes on at q -/
def z_Hd (Y : zY) (pc : Nat) (ls : List zV) (k : Int) (i q : Nat) : Prop :=
  ∃ (pre suf : List (Nat × Nat × Nat × Nat)) (x : Nat × Nat × Nat × Nat), Y.2.2.2.2.2.2.2.1 = pre ++ x :: suf ∧ (∀ z ∈ pre, z.2.2.2 ≠ 0 ∧ ∃ nm, nm ∈ z_exs ∧ z_ex k ≠ nm ∧ Cond.classLink Y.1.cls z.2.2.2 nm ∈ z_all) ∧ (x.1 ≤ pc ∧ pc < x.2.1) ∧ x.2.2.2 ≠ 0 ∧ Cond.classLink Y.1.cls x.2.2.2 (z_ex k) ∈ z_all ∧ Cond.castable (z_ex k) (z_ex k) ∈ lw_tbl ∧ z_ex k ∈ z_exs ∧
    ((decode Y.2.1 x.2.2.1 = .ok (.astore i, 2) ∧ x.2.2.1 + 2 = q) ∨ ∃ kk : Fin 4, decode Y.2.1 x.2.2.1 = .ok (.astore_n kk, 1) ∧ (kk : Nat) = i ∧ x.2.2.1 + 1 = q) ∧ i < Y.2.2.1 ∧ z_c1 ls i = true
theorem z_lv_forget {C : zC} {i : Nat} {v : Value} {lsA : Array Slot} {n : Nat} (hc : z_c1 ls i = true) (h : lv_has lsA n ((i, v) :: (z_lv C ls).filter (fun q => !(q.1 == i) && !(q.1 + 1 == i && q.2.category == 2)))) : lv_has lsA n (z_lv C (ls.set i (9, 0))) := by
  refine z_has_sub h (fun r hr => ?_)
  obtain ⟨w, w1, w2, w3⟩ := z_lv_of hr
  have hne : r.1 ≠ i := by
    intro e
    rw [e] at w1
    have hl : i < ls.length := by
      have := (List.getElem?_eq_some_iff.mp w1).1
      simpa using this
    rw [List.getElem?_set_self hl] at w1
    cases w1
    exact w2 rfl
  have := z_lv_set (C := C) (v := (9, 0)) hc r hr
  rcases List.mem_cons.mp this with e | e
  · exact absurd (by rw [e]) hne
  · exact List.mem_cons_of_mem _ e
/-- a call of a method of ours under a handler -/
theorem zr_callVH {Y' : zY} {P : zV → zS → zM → Prop} {as : List zV} {z : Int} {idx n c : Nat} (hc : z_Call Y' S ((1, z) :: as) M P) (hY : z_Mth Y' n) (hi : Cond.instanceMethod Y'.1 ∈ z_all) (hsel : Cond.selects Y'.1.cls Y'.1 Y'.1 ∈ z_all) (hl9 : Cond.methodLink Y.1.cls idx Y'.1 ∈ z_all)
    (hd : decode Y.2.1 pc = .ok (.invokevirtual idx, 3)) (hq : pc + 3 = q) (hn : as.length = n) (hrm : Y'.2.2.2.2.1.1 + 1 ≤ Y.2.2.2.2.1.1 ∧ 8 + (Y'.2.2.1 + 11) + Y'.2.2.2.2.1.2 ≤ Y.2.2.2.2.1.2) (h1 : 0 < z) (h2 : z ≤ S.2.1) (hk : (S.2.2 z).1 = c) (hc10 : c < 10) (hcls : z_cl[c]?.map (fun r => r.1) = some Y'.1.cls) (hst : z_one st = true) (hsl : st.length ≤ 8) (hmc : Y'.2.2.2.2.2.1 ≤ bc) (hms : Y'.2.2.2.2.2.2.1 ≤ bs)
    (kn : ∀ r S' M', r.1 ≠ 8 → P r S' M' → z_Ex Y S' q ls (z_ps r st) M' (bc - Y'.2.2.2.2.2.1) (bs - Y'.2.2.2.2.2.2.1) Q)
    (kx : ∀ k S' M', P (8, k) S' M' → ∃ i q, z_Hd Y pc ls k i q ∧ z_Ex Y S' q (ls.set i (9, 0)) [] M' (bc - Y'.2.2.2.2.2.1) (bs - Y'.2.2.2.2.2.2.1) Q) : z_Ex Y S pc ls (as.reverse ++ (1, z) :: st) M bc bs Q := by
  intro C p l e s m args below meth cc H locs cells slots lsA F St
  obtain ⟨hx, hb, hr9, hml, hown, hts, hnm, hlk, hex, hst9, hbase, hK, hKC, hCX⟩ := id F
  obtain ⟨hl, hP, hS, hsz, hokM, hokl, hoks, hc1, hc2⟩ := id St
  subst hq
  have hg := z_W_get (C := C) (S := S) (M := M) h1 h2
  rw [z_ob_cls (by rw [hk]; exact hc10), hk] at hg
  obtain ⟨r, hr, hrn⟩ : ∃ r, z_cl[c]? = some r ∧ r.1 = Y'.1.cls := by
    cases h : z_cl[c]? with
    | none => rw [h] at hcls; cases hcls
    | some r => rw [h] at hcls; exact ⟨r, rfl, Option.some.inj hcls⟩
  have hrecv := va_recv hK hP hr hg
  rw [hrn] at hrecv
  have hoka : ∀ v ∈ (1, z) :: as, z_ok v := by
    intro v hv
    rcases List.mem_cons.mp hv with h | h
    · exact hoks v (by rw [h]; exact List.mem_append_right _ List.mem_cons_self)
    · exact hoks v (List.mem_append_left _ (List.mem_reverse.mpr h))
  have hM := hc C l hst9 hoka
  have hok9 : ∀ v ∈ st, z_ok v := fun v hv => hoks v (List.mem_append_right _ (List.mem_cons_of_mem _ hv))
  have estk : (as.reverse ++ (1, z) :: st).map (z_cv C) = (as.map (z_cv C)).reverse ++ .ref (C.1 + (z.toNat - 1)) :: st.map (z_cv C) := by
    rw [List.map_append, List.map_reverse, List.map_cons]
    congr 2
    exact z_rf_pos h1
  have ea : ((1, z) :: as).map (z_cv C) = Value.ref (C.1 + (z.toNat - 1)) :: as.map (z_cv C) := by
    rw [List.map_cons]
    congr 1
    exact z_rf_pos h1
  have hpre := z_pre (as := (1, z) :: as) hP hS hsz hokM hbase hK hKC
  rw [estk]
  rw [ea] at hM hpre
  have cw : CallW (z_rm Y) s args Y.1.cls Y'.1.cls idx Y'.1 Y'.2.1 Y'.2.2.1 Y'.2.2.2.1 (z_wsY Y') (z_rm Y') Y'.2.2.2.2.2.1 Y'.2.2.2.2.2.2.1 n :=
    ⟨callB_of n hts (z_goodY hY.1) rfl rfl rfl (hts _ hY.2.1) (hts _ hl9) hY.2.2 ⟨hrm.1, hrm.2⟩, hts _ hi, hts _ hsel⟩
  have hr := vx_runV (H := H) (locs := locs) (cells := cells) (slots := slots) (e := e) (below := below) (meth := meth) (rest := st.map (z_cv C)) (g := F0 m pc lsA ((as.map (z_cv C)).reverse ++ .ref (C.1 + (z.toNat - 1)) :: st.map (z_cv C))) ⟨hx, hb, hml, hown, hts⟩ hM cw ⟨z_B_blind, hrecv, hpre⟩ rfl (by rw [List.length_map]; exact hn) hl.1 rfl (lv_room (by rw [z_one_sum hst]; exact hsl)) hd ⟨(by show cells + _ ≤ Y.2.2.2.2.2.1; omega), (by show slots + _ ≤ Y.2.2.2.2.2.2.1; omega)⟩
  intro T hT X
  rcases hr T hT X with ⟨v, st₀, t, T', L, h0, X', hL, e1, e2, ⟨⟨r, S', M', ho, h8, hok, hPr, hP1, hsz1, hok1⟩, hF⟩, stp⟩ | ⟨q9, st₀, t, T', L, E, ce, h0, X', hL, e1, e2, ⟨⟨k, S', M', hE, hPr, hP1, hsz1, hok1⟩, hF⟩, hce, hcv, hcl, stp⟩
  · obtain ⟨k1, k2, k3⟩ := vx_keep (A0 := z_A C) (A1 := z_A C) h0 e1 hS (fun _ _ h => h) (fun _ h => h) hL hF
    have hv : v = z_ret C r := Outcome.returned.inj ho
    have w1 := kn r S' M' h8 hPr C p l e s m args below meth cc T'.heap (locs ++ L) (cells + Y'.2.2.2.2.2.1) (slots + Y'.2.2.2.2.2.2.1) lsA F ⟨hl, by rw [e1]; exact hP1, k3, by rw [e1]; exact hsz1, hok1, hokl, (by
      unfold z_ps
      split
      · exact hok9
      · exact z_okc hok hok9), by omega, by omega⟩
    rw [z_ps_map, ← hv] at w1
    obtain ⟨t2, a1, b1⟩ := w1 T' rfl X'
    exact ⟨t2, stp t2 a1, b1⟩
  · obtain ⟨k1, k2, k3⟩ := vx_keep (A0 := z_A C) (A1 := z_A C) h0 e1 hS (fun _ _ h => h) (fun _ h => h) hL hF
    obtain ⟨i, q2, ⟨pre, suf, x, g1, g2, g3, g4, g5, g6, g7, g8, g9, g10⟩, kk⟩ := kx k S' M' hPr
    subst hE
    have kkW : ∀ lsB : Array Slot, lv_has lsB Y.2.2.1 ((i, .ref q9) :: (z_lv C ls).filter (fun q => !(q.1 == i) && !(q.1 + 1 == i && q.2.category == 2))) → W p l e (z_rm Y) s m args below meth cc T'.heap (locs ++ L) (cells + Y'.2.2.2.2.2.1) (slots + Y'.2.2.2.2.2.2.1) (z_MQ Y C below Q args s) (F0 m q2 lsB []) := fun lsB hB =>
      kk C p l e s m args below meth cc T'.heap (locs ++ L) (cells + Y'.2.2.2.2.2.1) (slots + Y'.2.2.2.2.2.2.1) lsB F ⟨z_lv_forget g10 hB, by rw [e1]; exact hP1, k3, by rw [e1]; exact hsz1, hok1, (fun w hw => by
        rcases List.mem_or_eq_of_mem_set hw with h | h
        · exact hokl w h
        · rw [h]; exact fun h => absurd h (show ¬ (9 : Nat) ≤ 2 by decide)), (fun v hv => by cases hv), by omega, by omega⟩
    have w0 : W p l e (z_rm Y) s m args below meth cc T'.heap (locs ++ L) (cells + Y'.2.2.2.2.2.1) (slots + Y'.2.2.2.2.2.2.1) (z_MQ Y C below Q args s) (F0 m x.2.2.1 lsA [.ref q9]) := by
      rcases g8 with ⟨d1, d2⟩ | ⟨kf, d1, d2, d3⟩
      · subst d2
        exact lv_astore hx hb d1 hl g9 rfl kkW
      · subst d2
        subst d3
        exact lv_astore_n hx hb d1 rfl hl g9 rfl kkW
    have w1 : vx_W p l e (z_rm Y) s m args below meth cc T'.heap (locs ++ L) (cells + Y'.2.2.2.2.2.1) (slots + Y'.2.2.2.2.2.2.1) (z_MQ Y C below Q args s) (F0 m pc lsA (st.map (z_cv C))) q9 := by
      refine vx_catch (E := z_ex k) (name := z_ex k) hown (tableOf pre) ⟨x.1, x.2.1, x.2.2.1, x.2.2.2⟩ (tableOf suf) (by rw [hex, g1]; simp [tableOf]) (fun y hy => ?_) (by simp [covers]; exact g3) g4 (hts _ g5) (va_Nw.use (A := args) rfl (hKC.1.1 _ g6 rfl)) (by rw [e1]; exact hce) hcv hcl w0
      obtain ⟨y0, y1, y2⟩ := List.mem_map.mp hy
      obtain ⟨n1, nm, n2, n3, n4⟩ := g2 y0 y1
      subst y2
      exact Or.inr ⟨n1, nm, hts _ n4, hKC.1.2.2 _ g7 _ n2 n3⟩
    obtain ⟨t2, a1, b1⟩ := w1 T' rfl X'
    exact ⟨t2, stp.trans a1, b1⟩
theorem z_goodH {Y' : zY} (hc : Cond.codeWith Y'.1 Y'.2.1 Y'.2.2.1 Y'.2.2.2.1 Y'.2.2.2.2.2.2.2.1 ∈ z_all) : GoodIn z_all (z_wsH Y') := by
  intro w hw
  rcases List.mem_cons.mp hw with rfl | h
  · exact ⟨hc, z_all_good hc⟩
  · exact ⟨h, z_all_good h⟩
/-- a static method with handlers, called by a method without; it doesn't throw -/
theorem zr_callSH {Y' : zY} {P : zV → zS → zM → Prop} {as : List zV} {idx n : Nat} (hc : z_CallH Y' S as M P) (hno : ∀ k S M, ¬ P (8, k) S M) (hY : Cond.codeWith Y'.1 Y'.2.1 Y'.2.2.1 Y'.2.2.2.1 Y'.2.2.2.2.2.2.2.1 ∈ z_all) (hY1 : Cond.initialized Y'.1.cls ∈ z_all) (hY2 : Y'.1.cls ≠ "java/lang/invoke/MethodHandle" ∧ Y'.1.cls ≠ "java/lang/invoke/VarHandle" ∧ (parseMethodDescriptor Y'.1.desc).map (fun d => d.parameters.length) = some n) (hi : Cond.static Y'.1 ∈ z_all) (hl9 : Cond.methodLink Y.1.cls idx Y'.1 ∈ z_all)
    (hd : decode Y.2.1 pc = .ok (.invokestatic idx, 3)) (hq : pc + 3 = q) (hn : as.length = n) (hrm : z_rmle Y Y') (hst : z_one st = true) (hsl : st.length ≤ 8) (hmc : Y'.2.2.2.2.2.1 ≤ bc) (hms : Y'.2.2.2.2.2.2.1 ≤ bs)
    (kn : ∀ r S' M', r.1 ≠ 8 → P r S' M' → z_Ex Y S' q ls (z_ps r st) M' (bc - Y'.2.2.2.2.2.1) (bs - Y'.2.2.2.2.2.2.1) Q) : z_Ex Y S pc ls (as.reverse ++ st) M bc bs Q := by
  intro C p l e s m args below meth cc H locs cells slots lsA F St
  obtain ⟨hx, hb, hr9, hml, hown, hts, hnm, hlk, hex, hst9, hbase, hK, hKC, hCX⟩ := id F
  obtain ⟨hl, hP, hS, hsz, hokM, hokl, hoks, hc1, hc2⟩ := id St
  subst hq
  have hM := hc C l hst9 (fun v hv => hoks v (List.mem_append_left _ (List.mem_reverse.mpr hv)))
  have hok9 : ∀ v ∈ st, z_ok v := fun v hv => hoks v (List.mem_append_right _ hv)
  have estk : (as.reverse ++ st).map (z_cv C) = (as.map (z_cv C)).reverse ++ st.map (z_cv C) := by
    rw [List.map_append, List.map_reverse]
  have hpre := z_pre (as := as) hP hS hsz hokM hbase hK hKC
  rw [estk]
  have hG : GoodIn z_all (va_wsS Y.1.cls idx Y'.1 (z_wsH Y')) := by
    intro w hw
    rcases List.mem_append.mp hw with h | h
    · have h2 : w ∈ z_all := by
        simp only [List.mem_cons, List.not_mem_nil, or_false] at h
        rcases h with rfl | rfl | rfl
        · exact hl9
        · exact hi
        · exact hY1
      exact ⟨h2, z_all_good h2⟩
    · exact z_goodH hY w h
  have cw := vx_cwSW (R := z_rm Y) (own := Y.1.cls) (index := idx) (y := Y'.1) (bytes := Y'.2.1) (maxL := Y'.2.2.1) (ret := Y'.2.2.2.1) (hh := Y'.2.2.2.2.2.2.2.1) (mc := Y'.2.2.2.2.2.1) (ms := Y'.2.2.2.2.2.2.1) (rm := z_rm Y') n hts hG rfl rfl rfl hY2 ⟨hrm.1, hrm.2.1⟩
  have hr := vx_runSX (H := H) (locs := locs) (cells := cells) (slots := slots) (e := e) (below := below) (meth := meth) (rest := st.map (z_cv C)) (g := F0 m pc lsA ((as.map (z_cv C)).reverse ++ st.map (z_cv C))) ⟨hx, hb, hml, hown, hts⟩ hM cw ⟨z_B_blind, hpre⟩ rfl (by rw [List.length_map]; exact hn) hl.1 rfl (lv_room (by rw [z_one_sum hst]; exact hsl)) hd ⟨(by show cells + _ ≤ Y.2.2.2.2.2.1; omega), (by show slots + _ ≤ Y.2.2.2.2.2.2.1; omega)⟩
  exact z_behind (st := st) F ⟨hl, hP, hS, hsz, hokM, hokl, hok9, hc1, hc2⟩ hrm.2.2 hmc hms hr kn (fun k S M h => (hno k S M h).elim)
/-! rows of longs and doubles -/
theorem z_updL {M : zM} {z i x : Int} (h0 : 0 ≤ i) (hi : z_in i) : vp_updL (fun j : Nat => Int64.ofInt (M z j)) (Int32.ofInt i).toNatClampNeg (Int64.ofInt x) = fun j : Nat => Int64.ofInt (z_up M z i x z j) := by
  funext j
  have e := zn_nat h0 hi
  unfold vp_updL z_up
  by_cases hj : j = (Int32.ofInt i).toNatClampNeg
  · rw [if_pos hj, if_pos ⟨rfl, by rw [hj]; exact e⟩]
  · rw [if_neg hj, if_neg (fun q => hj (by omega))]
theorem z_updD {M : zM} {z i x : Int} (h0 : 0 ≤ i) (hi : z_in i) : vf_upd (fun j : Nat => UInt64.ofNat (M z j).toNat) (Int32.ofInt i).toNatClampNeg (UInt64.ofNat x.toNat) = fun j : Nat => UInt64.ofNat (z_up M z i x z j).toNat := by
  funext j
  have e := zn_nat h0 hi
  unfold vf_upd z_up
  by_cases hj : j = (Int32.ofInt i).toNatClampNeg
  · rw [if_pos hj, if_pos ⟨rfl, by rw [hj]; exact e⟩]
  · rw [if_neg hj, if_neg (fun q => hj (by omega))]
theorem zr_last {z i x : Int} {n : Nat} (hd : decode Y.2.1 pc = .ok (.lastore, 1)) (hq : pc + 1 = q) (h1 : 0 < z) (h2 : z ≤ S.2.1) (hk : S.2.2 z = (13, n)) (hi0 : 0 ≤ i) (hi1 : i < n) (hS0 : S.1 = false)
    (kk : z_Ex Y S q ls st (z_up M z i x) bc bs Q) : z_Ex Y S pc ls ((2, x) :: (0, i) :: (1, z) :: st) M bc bs Q := by
  intro C p l e s m args below meth cc H locs cells slots lsA F St
  obtain ⟨hx, hb, hr, hml, hown, hts, hnm, hlk, hex, hst, hbase, hK, hKC, hCX⟩ := id F
  obtain ⟨hl, hP, hS, hsz, hokM, hokl, hoks, hc1, hc2⟩ := id St
  subst hq
  have hii := z_oki (z_ok2 hoks).2.1
  have hg := z_W_get (C := C) (S := S) (M := M) h1 h2
  rw [hk] at hg
  show W _ _ _ _ _ _ _ _ _ _ _ _ _ _ _ (F0 m pc lsA (.long (Int64.ofInt x) :: .int (Int32.ofInt i) :: va_rf (z_rf C z) :: st.map (z_cv C)))
  rw [z_rf_pos h1]
  refine va_last hx hb hK hP z_W_D hS (z.toNat - 1) 3 hg rfl (zn_ix hi0 hi1 hii) hd (fun H1 locs1 hP1 hD1 hS1 => ?_)
  rw [z_updL hi0 hii, z_W_set (j := i) (v := x) h1 (by rw [hk]; rfl)] at hP1
  exact kk C p l e s m args below meth cc H1 locs1 cells slots lsA F ⟨hl, hP1, hS1, (fun h => by rw [hS0] at h; cases h), z_okM_up hokM (fun _ => (z_ok2 hoks).1 (Nat.le_refl 2)), hokl, fun v hv => (z_ok2 hoks).2.2 v (List.mem_cons_of_mem _ hv), hc1, hc2⟩
theorem zr_lald {z i : Int} {n : Nat} (hd : decode Y.2.1 pc = .ok (.laload, 1)) (hq : pc + 1 = q) (h1 : 0 < z) (h2 : z ≤ S.2.1) (hk : S.2.2 z = (13, n)) (hi0 : 0 ≤ i) (hi1 : i < n)
    (kk : z_Ex Y S q ls ((2, M z i) :: st) M bc bs Q) : z_Ex Y S pc ls ((0, i) :: (1, z) :: st) M bc bs Q := by
  intro C p l e s m args below meth cc H locs cells slots lsA F St
  obtain ⟨hx, hb, hr, hml, hown, hts, hnm, hlk, hex, hst, hbase, hK, hKC, hCX⟩ := id F
  obtain ⟨hl, hP, hS, hsz, hokM, hokl, hoks, hc1, hc2⟩ := id St
  subst hq
  have hii := z_oki (z_ok2 hoks).1
  have hg := z_W_get (C := C) (S := S) (M := M) h1 h2
  rw [hk] at hg
  show W _ _ _ _ _ _ _ _ _ _ _ _ _ _ _ (F0 m pc lsA (.int (Int32.ofInt i) :: va_rf (z_rf C z) :: st.map (z_cv C)))
  rw [z_rf_pos h1]
  refine va_lald hx hb hK hP (z.toNat - 1) 3 hg rfl (zn_ix hi0 hi1 hii) hd ?_
  rw [zn_nat hi0 hii]
  exact kk C p l e s m args below meth cc H locs cells slots lsA F ⟨hl, hP, hS, hsz, hokM, hokl, z_okc (fun _ => hokM z i h1 h2 (by rw [hk]; exact z_n14 (by omega))) (z_ok2 hoks).2.2, hc1, hc2⟩
theorem zr_dast {z i x : Int} {n : Nat} (hd : decode Y.2.1 pc = .ok (.dastore, 1)) (hq : pc + 1 = q) (h1 : 0 < z) (h2 : z ≤ S.2.1) (hk : S.2.2 z = (14, n)) (hi0 : 0 ≤ i) (hi1 : i < n) (hS0 : S.1 = false)
    (kk : z_Ex Y S q ls st (z_up M z i x) bc bs Q) : z_Ex Y S pc ls ((4, x) :: (0, i) :: (1, z) :: st) M bc bs Q := by
  intro C p l e s m args below meth cc H locs cells slots lsA F St
  obtain ⟨hx, hb, hr, hml, hown, hts, hnm, hlk, hex, hst, hbase, hK, hKC, hCX⟩ := id F
  obtain ⟨hl, hP, hS, hsz, hokM, hokl, hoks, hc1, hc2⟩ := id St
  subst hq
  have hii := z_oki (z_ok2 hoks).2.1
  have hg := z_W_get (C := C) (S := S) (M := M) h1 h2
  rw [hk] at hg
  show W _ _ _ _ _ _ _ _ _ _ _ _ _ _ _ (F0 m pc lsA (.double (UInt64.ofNat x.toNat) :: .int (Int32.ofInt i) :: va_rf (z_rf C z) :: st.map (z_cv C)))
  rw [z_rf_pos h1]
  refine va_dast hx hb hK hP z_W_D hS (z.toNat - 1) 4 hg rfl (zn_ix hi0 hi1 hii) hd (fun H1 locs1 hP1 hD1 hS1 => ?_)
  rw [z_updD hi0 hii, z_W_set (j := i) (v := x) h1 (by rw [hk]; rfl)] at hP1
  exact kk C p l e s m args below meth cc H1 locs1 cells slots lsA F ⟨hl, hP1, hS1, (fun h => by rw [hS0] at h; cases h), z_okM_up hokM (fun h => absurd (by rw [hk]) h), hokl, fun v hv => (z_ok2 hoks).2.2 v (List.mem_cons_of_mem _ hv), hc1, hc2⟩
theorem zr_dald {z i : Int} {n : Nat} (hd : decode Y.2.1 pc = .ok (.daload, 1)) (hq : pc + 1 = q) (h1 : 0 < z) (h2 : z ≤ S.2.1) (hk : S.2.2 z = (14, n)) (hi0 : 0 ≤ i) (hi1 : i < n)
    (kk : z_Ex Y S q ls ((4, M z i) :: st) M bc bs Q) : z_Ex Y S pc ls ((0, i) :: (1, z) :: st) M bc bs Q := by
  intro C p l e s m args below meth cc H locs cells slots lsA F St
  obtain ⟨hx, hb, hr, hml, hown, hts, hnm, hlk, hex, hst, hbase, hK, hKC, hCX⟩ := id F
  obtain ⟨hl, hP, hS, hsz, hokM, hokl, hoks, hc1, hc2⟩ := id St
  subst hq
  have hii := z_oki (z_ok2 hoks).1
  have hg := z_W_get (C := C) (S := S) (M := M) h1 h2
  rw [hk] at hg
  show W _ _ _ _ _ _ _ _ _ _ _ _ _ _ _ (F0 m pc lsA (.int (Int32.ofInt i) :: va_rf (z_rf C z) :: st.map (z_cv C)))
  rw [z_rf_pos h1]
  refine va_dald hx hb hK hP (z.toNat - 1) 4 hg rfl (zn_ix hi0 hi1 hii) hd ?_
  rw [zn_nat hi0 hii]
  exact kk C p l e s m args below meth cc H locs cells slots lsA F ⟨hl, hP, hS, hsz, hokM, hokl, z_okc zok_4 (z_ok2 hoks).2.2, hc1, hc2⟩
end ZWR
/-- the classes of the exceptions -/
theorem z_hdx {k : Int} (h : 0 ≤ k ∧ k ≤ 4) : Cond.castable (z_ex k) (z_ex k) ∈ lw_tbl ∧ z_ex k ∈ z_exs := by
  have h5 : k = 0 ∨ k = 1 ∨ k = 2 ∨ k = 3 ∨ k = 4 := by omega
  rcases h5 with rfl | rfl | rfl | rfl | rfl
  · exact ⟨List.mem_of_getElem? (i := 454) (by decide +kernel), by decide⟩
  · exact ⟨List.mem_of_getElem? (i := 526) (by decide +kernel), by decide⟩
  · exact ⟨List.mem_of_getElem? (i := 543) (by decide +kernel), by decide⟩
  · exact ⟨List.mem_of_getElem? (i := 921) (by decide +kernel), by decide⟩
  · exact ⟨List.mem_of_getElem? (i := 562) (by decide +kernel), by decide⟩
theorem z_cl13 : Cond.classLink "WindElectionLaw" 13 (z_ex 2) ∈ z_all := z_all_in (i := 668) (by decide +kernel) (by decide +kernel)
theorem z_cl19 : Cond.classLink "WindElectionLaw" 19 (z_ex 0) ∈ z_all := z_all_in (i := 682) (by decide +kernel) (by decide +kernel)
theorem z_cl32 : Cond.classLink "WindElectionLaw" 32 (z_ex 1) ∈ z_all := z_all_in (i := 738) (by decide +kernel) (by decide +kernel)
theorem z_cl52 : Cond.classLink "WindElectionLaw" 52 (z_ex 4) ∈ z_all := z_all_in (i := 828) (by decide +kernel) (by decide +kernel)
theorem z_cl82 : Cond.classLink "WindElectionLaw" 82 (z_ex 3) ∈ z_all := z_all_in (i := 909) (by decide +kernel) (by decide +kernel)
