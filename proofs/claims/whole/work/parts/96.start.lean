/-! dep: 95 -/
/-! ===== printed by gen/specs/gen95.py: the world at the entry ===== -/
section ZEN
variable {b : Nat} {s : State}
theorem e_hz (ht : z_tf b s) : ∀ w ∈ z_all, w.before #[Value.ref b] s = true := fun w hw => ht w (List.mem_filter.mp hw).1
theorem e_cls1 (ht : z_tf b s) : ∀ (k : Nat) (q : vw_C), z_cl[k]? = some q → ∃ (c : ClassId) (i : Nat → Nat), u_Kn s q.1 q.2.1 q.2.2 c i := by
  have hz := e_hz ht
  intro k q hq
  match k, hq with
  | 0, hq => cases hq; exact u_known (n := 7) hz u_inX1 (hz _ (z_all_in (i := 86) (by decide +kernel) (by decide +kernel)))
  | 1, hq => cases hq; exact u_known (n := 3) hz u_inX2 (hz _ (z_all_in (i := 93) (by decide +kernel) (by decide +kernel)))
  | 2, hq => cases hq; exact u_known (n := 4) hz u_inX3 (hz _ (z_all_in (i := 175) (by decide +kernel) (by decide +kernel)))
  | 3, hq => cases hq; exact u_known (n := 3) hz u_inX5 (hz _ (z_all_in (i := 155) (by decide +kernel) (by decide +kernel)))
  | 4, hq => cases hq; exact u_known (n := 2) hz u_inX6 (hz _ (z_all_in (i := 232) (by decide +kernel) (by decide +kernel)))
  | 5, hq => cases hq; exact u_known (n := 5) hz u_inX7 (hz _ (z_all_in (i := 264) (by decide +kernel) (by decide +kernel)))
  | 6, hq => cases hq; exact u_known (n := 5) hz u_inX8 (hz _ (z_all_in (i := 182) (by decide +kernel) (by decide +kernel)))
  | 7, hq => cases hq; exact u_known (n := 2) hz u_inX9 (hz _ (z_all_in (i := 247) (by decide +kernel) (by decide +kernel)))
  | 8, hq => cases hq; exact u_known (n := 12) hz u_inX11 (hz _ (z_all_in (i := 78) (by decide +kernel) (by decide +kernel)))
  | 9, hq => cases hq; exact u_known (n := 24) hz u_inX12 (hz _ (z_all_in (i := 1226) (by decide +kernel) (by decide +kernel)))
  | n + 10, hq => simp [z_cl] at hq
theorem e_cls (ht : z_tf b s) : ∃ D : va_G, ∀ (c : Nat) (q : vw_C), z_cl[c]? = some q → u_Kn s q.1 q.2.1 q.2.2 (D.1 c) (D.2 c) := by
  obtain ⟨c0, i0, _⟩ := e_cls1 ht 0 _ rfl
  have h : ∀ k : Nat, ∃ p : ClassId × (Nat → Nat), ∀ q, z_cl[k]? = some q → u_Kn s q.1 q.2.1 q.2.2 p.1 p.2 := by
    intro k
    cases hk : z_cl[k]? with
    | none => exact ⟨(c0, i0), fun q hq => by cases hq⟩
    | some q =>
      obtain ⟨c, i, hu⟩ := e_cls1 ht k q hk
      exact ⟨(c, i), fun q2 hq => by cases hq; exact hu⟩
  obtain ⟨g, hg⟩ := Classical.axiomOfChoice h
  exact ⟨(fun k => (g k).1, fun k => (g k).2), fun c q hq => hg c q hq⟩
theorem e_arr {ty : FieldType} (h : (Cond.arrayClass ty).before #[Value.ref b] s = true) (hr : ∀ cA, s.vm.findClass ("[" ++ ty.toString) = some cA → va_RA s cA ty) : ∃ cA : ClassId, ArrOfT s cA ty ∧ va_RA s cA ty := by
  obtain ⟨c, k, comp, h1, h2, h3⟩ := Cond.arrayClass_spec h
  exact ⟨c, fun n z => ⟨fun k h => (by cases h), k, h2, comp, h3⟩, hr c h1⟩
theorem e_arrO {Cn : String} (h : (Cond.arrayOver (.object Cn)).before #[Value.ref b] s = true) : ∃ cA : ClassId, ArrOfT s cA (.object Cn) ∧ va_RA s cA (.object Cn) := by
  obtain ⟨comp, c, k, h1, -, h3, h4, h5⟩ := Cond.arrayOver_spec h
  exact ⟨c, fun n z => ⟨fun k h => (by cases h), k, h3, comp, h4⟩, k, comp, h3, h4, h1, h5⟩
theorem e_tys (ht : z_tf b s) : ∃ a : Nat → ClassId, ∀ (k : Nat) (q : ClassId × FieldType), ([(a 0, .int), (a 1, .boolean), (a 2, .char), (a 3, .long), (a 4, .double), (a 5, .object RX1), (a 6, .object RX2), (a 7, .object RX8)] : List (ClassId × FieldType))[k]? = some q → ArrOfT s q.1 q.2 ∧ va_RA s q.1 q.2 := by
  obtain ⟨a0, h0⟩ := e_arr (ty := .int) (ht.at 117 (by decide +kernel)) (fun _ h => h)
  obtain ⟨a1, h1⟩ := e_arr (ty := .boolean) (ht.at 116 (by decide +kernel)) (fun _ h => h)
  obtain ⟨a2, h2⟩ := e_arr (ty := .char) (ht.at 262 (by decide +kernel)) (fun _ h => h)
  obtain ⟨a3, h3⟩ := e_arr (ty := .long) (ht.at 1675 (by decide +kernel)) (fun _ h => h)
  obtain ⟨a4, h4⟩ := e_arr (ty := .double) (ht.at 1676 (by decide +kernel)) (fun _ h => h)
  obtain ⟨a5, h5⟩ := e_arrO (Cn := RX1) (ht.at 161 (by decide +kernel))
  obtain ⟨a6, h6⟩ := e_arrO (Cn := RX2) (ht.at 92 (by decide +kernel))
  obtain ⟨a7, h7⟩ := e_arrO (Cn := RX8) (ht.at 181 (by decide +kernel))
  refine ⟨fun k => if k = 0 then a0 else if k = 1 then a1 else if k = 2 then a2 else if k = 3 then a3 else if k = 4 then a4 else if k = 5 then a5 else if k = 6 then a6 else a7, fun k q hq => ?_⟩
  match k, hq with
  | 0, hq => cases hq; exact h0
  | 1, hq => cases hq; exact h1
  | 2, hq => cases hq; exact h2
  | 3, hq => cases hq; exact h3
  | 4, hq => cases hq; exact h4
  | 5, hq => cases hq; exact h5
  | 6, hq => cases hq; exact h6
  | 7, hq => cases hq; exact h7
  | n + 8, hq => simp at hq

/-- the texts -/
theorem e_str {A : Nat → Prop} (hp : z_pf b s) (hA : ∀ a : Nat, a < s.heap.size → ¬ A a) : ∃ adK adV : Nat → Nat, vk_S 38 z_sl z_sb adK adV A s s.heap ∧ ∀ i : Nat, i < 38 → (z_st i).eval #[Value.ref b] s none [] s = some (.ref (adK i)) := by
  have h : ∀ i : Nat, ∃ q : Nat × Nat, i < 38 → (z_st i).eval #[Value.ref b] s none [] s = some (.ref q.1) ∧ va_O "java/lang/String" q.1 A s s.heap ∧ va_OF "java/lang/String" "coder" "B" (.int 0) q.1 A s s.heap ∧ va_OF "java/lang/String" "value" "[B" (.ref q.2) q.1 A s s.heap ∧ va_T .byte q.2 (z_sl.getD i 0) (fun j => .int ((z_sb.getD i []).getD j 0)) A s s.heap := by
    intro i
    by_cases hi : i < 38
    · obtain ⟨aK, aV, h1, h2⟩ := vk_Sof (N := 1) (tm := fun _ => z_st i) (len := [z_sl.getD i 0]) (byt := [z_sb.getD i []]) (A := A) (args := #[Value.ref b]) (s := s) (fun k hk => by
          have e : k = 0 := by omega
          subst e
          have := e_s6 i hi
          show z_sl.getD i 0 < 2 ^ 31
          omega) (fun k hk => hp.at _ (e_s0 i hi)) (fun k hk => hp.at _ (e_s1 i hi)) (fun k hk => hp.at _ (e_s2 i hi)) (fun k hk => by
          have e : k = 0 := by omega
          subst e
          exact hp.at _ (e_s3 i hi)) (fun k hk j hj => by
          have e : k = 0 := by omega
          subst e
          exact hp.at _ (e_s4 i hi j hj)) (fun k j hk hj e => absurd (show k = j by omega) e) hA
      have h3 := h1.1 0 (by decide)
      exact ⟨(aK 0, aV 0), fun _ => ⟨h2 0 (by decide), h3.1, h3.2.1, h3.2.2.1, h3.2.2.2⟩⟩
    · exact ⟨(0, 0), fun c => absurd c hi⟩
  obtain ⟨g, hg⟩ := Classical.axiomOfChoice h
  refine ⟨fun i => (g i).1, fun i => (g i).2, ⟨fun i hi => (hg i hi).2, fun i j hi hj e => ?_⟩, fun i hi => (hg i hi).1⟩
  obtain ⟨-, -, -, ⟨cf, k, fi, f, cell, q1, q2, q3, q4, q5, q6⟩, r1⟩ := hg i hi
  obtain ⟨-, -, -, ⟨cf2, k2, fi2, f2, cell2, p1, p2, p3, p4, p5, p6⟩, r2⟩ := hg j hj
  have e1 : (g i).1 = (g j).1 := e
  rw [e1] at q3
  cases q1.symm.trans p1
  cases q3.symm.trans p3
  have e2 : (g i).2 = (g j).2 := by
    have t : Value.ref (g i).2 = Value.ref (g j).2 := Option.some.inj (q5.symm.trans p5)
    injection t
  rw [e2] at r1
  obtain ⟨c1, a1, a2, a3, a4, a5, a6, -⟩ := r1
  obtain ⟨c2, b1, b2, b3, b4, b5, b6, -⟩ := r2
  cases a1.symm.trans b1
  have l1 := e_s6 i hi
  have l2 := e_s6 j hj
  have e3 : z_sl.getD i 0 = z_sl.getD j 0 := by
    have t := congrArg Int32.toInt (a5.symm.trans b5)
    rw [Int32.toInt_ofNat_of_lt (by omega), Int32.toInt_ofNat_of_lt (by omega)] at t
    omega
  refine e_s7 i hi j hj e3 (fun m hm => ?_)
  have t := (a6 m hm).symm.trans (b6 m (by omega))
  injection t with t
  injection t

theorem va_En.cg {E d : String} {nm : List String} {F : List (String × String × String × List Int32)} {ad ad2 : Nat → Nat} {A : Nat → Prop} {U : State} {H : Heap} (h : va_En E d nm F ad A U H) (e : ∀ i, i < nm.length → ad2 i = ad i) : va_En E d nm F ad2 A U H :=
  ⟨fun i hi => by rw [e i hi]; exact h.1 i hi, fun i j hi hj q => h.2 i j hi hj (by rw [← e i hi, ← e j hj]; exact q)⟩
theorem e_len {tm : Term} {N : Nat} (h : (Cond.eq (.length tm) (.int (Int32.ofNat N))).before #[Value.ref b] s = true) : (Term.length tm).eval #[Value.ref b] s none [] s = some (.int (Int32.ofNat N)) := va_eqv h rfl
/-- all that the constants are -/
theorem e_KC (hp : z_pf b s) (ht : z_tf b s) (n : Nat) (hn : n = s.heap.size) (G : va_G) (aC : Nat → ClassId) : ∃ ad : Nat → Nat, ad 98 = b ∧ z_KC (n, ad, G, aC) s s.heap := by
  have hA : ∀ a : Nat, a < s.heap.size → ¬ z_A (n, (fun _ => 0 : Nat → Nat), G, aC) a := fun a h1 h2 => by
    have h3 : n ≤ a := h2
    omega
  obtain ⟨adK, adV, hS, hSe⟩ := e_str (A := z_A (n, (fun _ => 0 : Nat → Nat), G, aC)) hp hA
  obtain ⟨adF, hF, hFe⟩ := va_Enof2 (args := #[Value.ref b]) (E := "WindElection$Fault") (d := "LWindElection$Fault;") (nm := z_fn) (F := z_fF) (A := z_A (n, (fun _ => 0 : Nat → Nat), G, aC)) (s := s) (fun i hi => ht.at _ (e_f2 i hi)) (ht.at 61 (by decide +kernel)) (fun i hi => hp.at _ (e_f0 i hi)) (fun q hq i hi => by
      rcases List.mem_cons.mp hq with rfl | hq
      · exact hp.at _ (e_f1 i hi)
      · cases hq) (fun i j hi hj e => (e_f3 i hi j hj e).imp (fun h => hp.at _ h) (fun h => hp.at _ h)) hA
  obtain ⟨adW, hW, hWe⟩ := va_Enof2 (args := #[Value.ref b]) (E := "WindElection$Word") (d := "LWindElection$Word;") (nm := z_wn) (F := z_wF) (A := z_A (n, (fun _ => 0 : Nat → Nat), G, aC)) (s := s) (fun i hi => ht.at _ (e_w2 i hi)) (ht.at 58 (by decide +kernel)) (fun i hi => hp.at _ (e_w0 i hi)) (fun q hq i hi => by
      rcases List.mem_cons.mp hq with rfl | hq
      · exact hp.at _ (e_w1 i hi)
      · rcases List.mem_cons.mp hq with rfl | hq
        · exact hp.at _ (e_w3 i hi)
        · rcases List.mem_cons.mp hq with rfl | hq
          · exact hp.at _ (e_w4 i hi)
          · cases hq) (fun i j hi hj e => (e_w6 i hi j hj e).imp (fun h => hp.at _ h) (fun h => hp.at _ h)) hA
  have hE : va_Ef 8 "WindElection$Word" "letters" "Ljava/lang/String;" (fun i => .ref (adK (z_wl.getD i 0))) adW (z_A (n, (fun _ => 0 : Nat → Nat), G, aC)) s s.heap := va_Efof (args := #[Value.ref b]) (E := "WindElection$Word") (d0 := "LWindElection$Word;") (nm := z_wn) (tm := fun i => z_st (z_wl.getD i 0)) hWe (fun i hi => hp.at _ (e_w5 i hi)) (fun i hi => hSe _ ((by decide : ∀ i, i < 8 → z_wl.getD i 0 < 38) i hi)) hA
  obtain ⟨tW, tWe, hTW⟩ := va_Tof (args := #[Value.ref b]) (tm := .static "WindElection" "WORDS" "[LWindElection$Word;") (ty := .object "WindElection$Word") (N := 8) (f := fun j => .ref (adW j)) (A := z_A (n, (fun _ => 0 : Nat → Nat), G, aC)) (s := s) (by decide) (hp.at 101 (by decide +kernel)) (e_len (N := 8) (hp.at 102 (by decide +kernel))) (fun j hj => va_eqv (hp.at _ (e_m3 j hj)) (hWe j hj)) hA
  have hZW := va_Zref (args := #[Value.ref b]) (ht.at 1092 (by decide +kernel)) (ht.at 48 (by decide +kernel)) tWe hA
  obtain ⟨t1, t1e, hT1⟩ := va_Tof (args := #[Value.ref b]) (tm := .static "WindElection$1" "$SwitchMap$WindElection$Fault" "[I") (ty := .int) (N := 10) (f := fun j => .int (Int32.ofInt (j : Int))) (A := z_A (n, (fun _ => 0 : Nat → Nat), G, aC)) (s := s) (by decide) (hp.at 13 (by decide +kernel)) (e_len (N := 10) (hp.at 14 (by decide +kernel))) (fun j hj => va_eqv (hp.at _ (e_m1 j hj)) rfl) hA
  have hZ1 := va_Zref (args := #[Value.ref b]) (ht.at 445 (by decide +kernel)) (ht.at 62 (by decide +kernel)) t1e hA
  obtain ⟨t2, t2e, hT2⟩ := va_Tof (args := #[Value.ref b]) (tm := .static "WindElection$1" "$SwitchMap$WindElection$Word" "[I") (ty := .int) (N := 8) (f := fun j => .int (Int32.ofInt ((j : Int) + 1))) (A := z_A (n, (fun _ => 0 : Nat → Nat), G, aC)) (s := s) (by decide) (hp.at 134 (by decide +kernel)) (e_len (N := 8) (hp.at 135 (by decide +kernel))) (fun j hj => va_eqv (hp.at _ (e_m2 j hj)) rfl) hA
  have hZ2 := va_Zref (args := #[Value.ref b]) (ht.at 1177 (by decide +kernel)) (ht.at 62 (by decide +kernel)) t2e hA
  have hCS := va_Zof (args := #[Value.ref b]) (C := "java/lang/String") (n := "COMPACT_STRINGS") (d := "Z") (v := .int 1) (ht.at 1106 (by decide +kernel)) (ht.at 71 (by decide +kernel)) (va_eqv (u := .int 1) (hp.at 112 (by decide +kernel)) rfl) hA
  have hSI := va_Zqof (args := #[Value.ref b]) (C := "jdk/internal/util/Preconditions") (n := "SIOOBE_FORMATTER") (d := "Ljava/util/function/BiFunction;") (ht.at 1122 (by decide +kernel)) (ht.at 74 (by decide +kernel)) (hp.at 113 (by decide +kernel)) hA
  have hU := vx_Zqof (args := #[Value.ref b]) (C := "java/lang/Throwable") (n := "UNASSIGNED_STACK") (d := "[Ljava/lang/StackTraceElement;") (ht.at 479 (by decide +kernel)) (ht.at 63 (by decide +kernel)) (hp.at 25 (by decide +kernel)) hA
  have hX := vx_Zqof (args := #[Value.ref b]) (C := "java/lang/Throwable") (n := "SUPPRESSED_SENTINEL") (d := "Ljava/util/List;") (ht.at 481 (by decide +kernel)) (ht.at 63 (by decide +kernel)) (hp.at 26 (by decide +kernel)) hA
  obtain ⟨t9, h99⟩ : ∃ t9 : Nat, va_Z "jdk/internal/util/Preconditions" "SIOOBE_FORMATTER" "Ljava/util/function/BiFunction;" .null (z_A (n, (fun _ => 0 : Nat → Nat), G, aC)) s s.heap ∨ va_Z "jdk/internal/util/Preconditions" "SIOOBE_FORMATTER" "Ljava/util/function/BiFunction;" (.ref t9) (z_A (n, (fun _ => 0 : Nat → Nat), G, aC)) s s.heap := by
    rcases hSI with h | ⟨t, h⟩
    · exact ⟨0, Or.inl h⟩
    · exact ⟨t, Or.inr h⟩
  obtain ⟨ad, had⟩ : ∃ ad : Nat → Nat, ad = fun k => if k < 11 then adF (k - 1) else if k < 19 then adW (k - 11) else if k = 19 then tW else if k = 20 then t1 else if k = 21 then t2 else if k = 98 then b else if k = 99 then t9 else if k < 200 then adK (k - 100) else adV (k - 200) := ⟨_, rfl⟩
  have a19 : ad 19 = tW := by rw [had]; rfl
  have a20 : ad 20 = t1 := by rw [had]; rfl
  have a21 : ad 21 = t2 := by rw [had]; rfl
  have a98 : ad 98 = b := by rw [had]; rfl
  have a99 : ad 99 = t9 := by rw [had]; rfl
  have aF : ∀ i, i < 10 → ad (1 + i) = adF i := fun i hi => by
    rw [had]
    show (if 1 + i < 11 then adF (1 + i - 1) else _) = adF i
    rw [if_pos (by omega), Nat.add_sub_cancel_left]
  have aW : ∀ i, i < 8 → ad (11 + i) = adW i := fun i hi => by
    rw [had]
    show (if 11 + i < 11 then adF (11 + i - 1) else if 11 + i < 19 then adW (11 + i - 11) else _) = adW i
    rw [if_neg (by omega), if_pos (by omega), Nat.add_sub_cancel_left]
  have aK : ∀ i, i < 38 → ad (100 + i) = adK i := fun i hi => by
    rw [had]
    show (if 100 + i < 11 then adF (100 + i - 1) else if 100 + i < 19 then adW (100 + i - 11) else if 100 + i = 19 then tW else if 100 + i = 20 then t1 else if 100 + i = 21 then t2 else if 100 + i = 98 then b else if 100 + i = 99 then t9 else if 100 + i < 200 then adK (100 + i - 100) else _) = adK i
    rw [if_neg (by omega), if_neg (by omega), if_neg (by omega), if_neg (by omega), if_neg (by omega), if_neg (by omega), if_neg (by omega), if_pos (by omega), Nat.add_sub_cancel_left]
  have aV : ∀ i, i < 38 → ad (200 + i) = adV i := fun i hi => by
    rw [had]
    show (if 200 + i < 11 then adF (200 + i - 1) else if 200 + i < 19 then adW (200 + i - 11) else if 200 + i = 19 then tW else if 200 + i = 20 then t1 else if 200 + i = 21 then t2 else if 200 + i = 98 then b else if 200 + i = 99 then t9 else if 200 + i < 200 then adK (200 + i - 100) else adV (200 + i - 200)) = adV i
    rw [if_neg (by omega), if_neg (by omega), if_neg (by omega), if_neg (by omega), if_neg (by omega), if_neg (by omega), if_neg (by omega), if_neg (by omega), Nat.add_sub_cancel_left]
  clear had
  refine ⟨ad, a98, ⟨fun w hw hi => ?_, fun i hi => ?_, fun x hx y hy e => ?_⟩, hU, hX, hF.cg (fun i hi => aF i hi), hW.cg (fun i hi => aW i hi), ?_, ?_, ?_, ?_, ?_, ?_, ?_, hCS, ?_, ?_⟩
  · have h1 := ht w hw
    cases w <;> first
      | exact va_Nw.of rfl h1
      | (rename_i t; cases t <;> first | exact va_AO.of h1 | exact Bool.noConfusion hi)
      | exact Bool.noConfusion hi
  · show vk_R _ _ _ (ad (100 + i)) s
    rw [aK i hi]
    exact vk_R.of (ht.at _ (e_s5 i hi)) (hSe i hi)
  · obtain ⟨i, hi, ei⟩ := List.getElem?_of_mem hx |>.imp fun i h => (⟨(List.getElem?_eq_some_iff.mp h).1, h⟩ : _ ∧ _)
    obtain ⟨j, hj, ej⟩ := List.getElem?_of_mem hy |>.imp fun i h => (⟨(List.getElem?_eq_some_iff.mp h).1, h⟩ : _ ∧ _)
    have h9 := e_c0 i hi j hj (fun c => e (by rw [c] at ei; exact Option.some.inj (ei.symm.trans ej)))
    rw [List.getD_eq_getElem?_getD, List.getD_eq_getElem?_getD (l := z_exs), List.getD_eq_getElem?_getD (l := z_exs), ei, ej] at h9
    exact va_Nc.of (hp.at _ h9)
  · intro i hi
    show va_OF _ _ _ (.ref (ad (100 + z_wl.getD i 0))) (ad (11 + i)) _ s s.heap
    rw [aW i hi, aK _ ((by decide : ∀ i, i < 8 → z_wl.getD i 0 < 38) i hi)]
    exact hE i hi
  · show va_Z _ _ _ (.ref (ad 19)) _ s s.heap
    rw [a19]; exact hZW
  · show va_T _ (ad 19) 8 (fun j => .ref (ad (11 + j))) _ s s.heap
    rw [a19]
    obtain ⟨cell, g1, g2, g3, g4, g5, g6, g7⟩ := hTW
    exact ⟨cell, g1, g2, g3, g4, g5, fun j hj => by
      show cell.slots[j]? = some (.ref (ad (11 + j)))
      rw [aW j hj]
      exact g6 j hj, g7⟩
  · show va_Z _ _ _ (.ref (ad 20)) _ s s.heap
    rw [a20]; exact hZ1
  · show va_T _ (ad 20) 10 _ _ s s.heap
    rw [a20]; exact hT1
  · show va_Z _ _ _ (.ref (ad 21)) _ s s.heap
    rw [a21]; exact hZ2
  · show va_T _ (ad 21) 8 _ _ s s.heap
    rw [a21]; exact hT2
  · show _ ∨ va_Z _ _ _ (.ref (ad 99)) _ s s.heap
    rw [a99]; exact h99
  · refine ⟨fun i hi => ?_, fun i j hi hj e => ?_⟩
    · show va_O _ (ad (100 + i)) _ s s.heap ∧ va_OF _ _ _ _ (ad (100 + i)) _ s s.heap ∧ va_OF _ _ _ (.ref (ad (200 + i))) (ad (100 + i)) _ s s.heap ∧ va_T _ (ad (200 + i)) _ _ _ s s.heap
      rw [aK i hi, aV i hi]
      exact hS.1 i hi
    · have e9 : ad (100 + i) = ad (100 + j) := e
      rw [aK i hi, aK j hj] at e9
      exact hS.2 i j hi hj e9
end ZEN

