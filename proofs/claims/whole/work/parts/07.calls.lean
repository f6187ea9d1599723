/-! ===== a method's end, its beginning, its calls ===== -/
section ZE
variable {Y : zY} {S : zS} {pc q : Nat} {ls st : List zV} {M : zM} {bc bs : Nat} {Q : zV → zS → zM → Prop}
theorem zr_ret {v : zV} (h9 : v.1 ≠ 8) (step : ∀ (C : zC) (p : Program) (l : Launch) (e : Env) (s : State) (m : MethodId) (args : Array Value) (below : List Frame) (meth : Method) (c : Code) (H : Heap) (locs : List Loc) (lsA : Array Slot) (Qc : Array Value → State → Outcome → State → Prop), p.tables.exec = Jvm.exec → c.code = Y.2.1 → meth.sig.returnType = Y.2.2.2.1 → meth.locks = false →
      (∀ t : State, t.heap = H → s.WarmedH t.vm → Qc args s (.returned (z_ret C v)) t) → (∀ q ∈ locs, z_A C q.base) → W p l e (z_rm Y) s m args below meth c H locs Y.2.2.2.2.2.1 Y.2.2.2.2.2.2.1 (MQ below Qc args s Y.2.2.2.2.2.1 Y.2.2.2.2.2.2.1 (z_A C)) (F0 m pc lsA (st.map (z_cv C))))
    (hv : (∀ v ∈ st, z_ok v) → z_ok v) (hQ : Q v S M) : z_Ex Y S pc ls st M bc bs Q := by
  intro C p l e s m args below meth cc H locs cells slots lsA F St
  obtain ⟨hx, hb, hr, hml, hown, hts, hnm, hlk, hex, hst, hbase, hK, hKC, hCX⟩ := id F
  obtain ⟨hl, hP, hS, hsz, hokM, hokl, hoks, hc1, hc2⟩ := id St
  refine W.widen (k := Y.2.2.2.2.2.1) (n := Y.2.2.2.2.2.2.1) (by omega) (by omega) ?_
  refine vx_ret (step C p l e s m args below meth cc H locs lsA _ hx hb hr hlk (fun t ht _ => ?_) hS.2.2)
  exact ⟨⟨v, S, M, rfl, h9, hv hoks, hQ, by rw [ht]; exact hP, by rw [ht]; exact hsz, hokM⟩, hS.F ht⟩
theorem zr_ireturn {x : Int} {ty : FieldType} (hd : decode Y.2.1 pc = .ok (.ireturn, 1)) (hr : Y.2.2.2.1 = some ty) (hf : z_fit ty (0, x)) (hQ : Q (0, x) S M) : z_Ex Y S pc ls [(0, x)] M bc bs Q :=
  zr_ret (v := (0, x)) (show (0 : Nat) ≠ 8 by decide) (fun C p l e s m args below meth c H locs lsA Qc hx hb hr9 hlk hq hf9 => W.zret hx hb (hr9.trans hr) (hf C).1 hq hf9 hd hlk) (fun h => (z_ok1 h).1) hQ
theorem zr_return (hd : decode Y.2.1 pc = .ok (.return_, 1)) (hr : Y.2.2.2.1 = none) (hQ : Q (9, 0) S M) : z_Ex Y S pc ls [] M bc bs Q :=
  zr_ret (v := (9, 0)) (show (9 : Nat) ≠ 8 by decide) (fun C p l e s m args below meth c H locs lsA Qc hx hb hr9 hlk hq hf9 => W.vret hx hb (hr9.trans hr) hq hf9 hd hlk) (fun _ h => absurd h (show ¬ (9 : Nat) ≤ 2 by decide)) hQ
theorem zr_areturn {x : Int} {ty : FieldType} (hd : decode Y.2.1 pc = .ok (.areturn, 1)) (hr : Y.2.2.2.1 = some ty) (hf : (∃ n, ty = .object n) ∨ ∃ t, ty = .array t) (hQ : Q (1, x) S M) : z_Ex Y S pc ls [(1, x)] M bc bs Q :=
  zr_ret (v := (1, x)) (show (1 : Nat) ≠ 8 by decide) (fun C p l e s m args below meth c H locs lsA Qc hx hb hr9 hlk hq hf9 => W.aret hx hb (hr9.trans hr) hf (va_rf_or _) hq hf9 hd hlk) (fun h => (z_ok1 h).1) hQ
theorem zr_freturn {x : Int} (hd : decode Y.2.1 pc = .ok (.freturn, 1)) (hr : Y.2.2.2.1 = some .float) (hQ : Q (3, x) S M) : z_Ex Y S pc ls [(3, x)] M bc bs Q :=
  zr_ret (v := (3, x)) (show (3 : Nat) ≠ 8 by decide) (fun C p l e s m args below meth c H locs lsA Qc hx hb hr9 hlk hq hf9 => W.fret hx hb (hr9.trans hr) hq hf9 hd hlk) (fun h => (z_ok1 h).1) hQ
theorem zr_dreturn {x : Int} (hd : decode Y.2.1 pc = .ok (.dreturn, 1)) (hr : Y.2.2.2.1 = some .double) (hQ : Q (4, x) S M) : z_Ex Y S pc ls [(4, x)] M bc bs Q :=
  zr_ret (v := (4, x)) (show (4 : Nat) ≠ 8 by decide) (fun C p l e s m args below meth c H locs lsA Qc hx hb hr9 hlk hq hf9 => W.dret hx hb (hr9.trans hr) hq hf9 hd hlk) (fun h => (z_ok1 h).1) hQ
/-- words -/
theorem z_all_in {w : Cond} {i : Nat} (h : lw_tbl[i]? = some w) (hg : goodWord w = true) : w ∈ z_all := List.mem_filter.mpr ⟨List.mem_of_getElem? h, hg⟩
theorem z_all_good {w : Cond} (h : w ∈ z_all) : (w.onTables && w.keeps) = true ∨ ∃ ty, w = .arrayClass ty := good_of_word (List.mem_filter.mp h).2
theorem z_goodY {Y' : zY} (hc : Cond.code Y'.1 Y'.2.1 Y'.2.2.1 Y'.2.2.2.1 ∈ z_all) : GoodIn z_all (z_wsY Y') := by
  intro w hw
  rcases List.mem_cons.mp hw with rfl | h
  · exact ⟨hc, z_all_good hc⟩
  · exact ⟨h, z_all_good h⟩
/-- arguments that take a word each -/
def z_one (as : List zV) : Bool := as.all fun v => v.1 == 0 || v.1 == 1 || v.1 == 3
theorem z_one_cat {C : zC} {as : List zV} (h : z_one as = true) : ∀ v ∈ as, (z_cv C v).category = 1 := by
  intro v hv
  have h1 := List.all_eq_true.mp h v hv
  obtain ⟨a, b⟩ := v
  simp only [Bool.or_eq_true, beq_iff_eq] at h1
  rcases h1 with (h1 | h1) | h1
  · subst h1; rfl
  · subst h1; exact z_rf_cat C b
  · subst h1; rfl
theorem z_one_sum {C : zC} {as : List zV} (h : z_one as = true) : ((as.map (z_cv C)).map fun v => v.category).sum = as.length := by
  induction as with
  | nil => rfl
  | cons a l ih =>
    have h1 := z_one_cat (C := C) h a List.mem_cons_self
    have h2 : z_one l = true := by
      unfold z_one at h ⊢
      simp only [List.all_cons, Bool.and_eq_true] at h
      exact h.2
    simp only [List.map_cons, List.sum_cons, h1, ih h2, List.length_cons]
    omega
theorem z_lv_args {C : zC} : ∀ (as : List zV) (i : Nat), z_one as = true → ∀ q ∈ lv_args i (as.map (z_cv C)), True := fun _ _ _ _ _ => trivial
theorem z_lv_entry {C : zC} {as : List zV} (h : z_one as = true) : ∀ (i : Nat) (k : Nat) (v : zV), as[k]? = some v → (i + k, z_cv C v) ∈ lv_args i (as.map (z_cv C)) := by
  induction as with
  | nil => intro i k v hv; simp at hv
  | cons a l ih =>
    intro i k v hv
    have h1 := z_one_cat (C := C) h a List.mem_cons_self
    have h2 : z_one l = true := by
      unfold z_one at h ⊢
      simp only [List.all_cons, Bool.and_eq_true] at h
      exact h.2
    show (i + k, z_cv C v) ∈ lv_args i (z_cv C a :: l.map (z_cv C))
    unfold lv_args
    rw [if_neg (by rw [h1]; decide)]
    cases k with
    | zero => simp at hv; subst hv; exact List.mem_cons_self
    | succ k =>
      simp at hv
      refine List.mem_cons_of_mem _ ?_
      have := ih h2 (i + 1) k v hv
      rw [show i + 1 + k = i + (k + 1) by omega] at this
      exact this
theorem z_sl_len {C : zC} {as : List zV} (h : z_one as = true) : (lg_sl (as.map (z_cv C))).length = as.length := by
  induction as with
  | nil => rfl
  | cons a l ih =>
    have h1 := z_one_cat (C := C) h a List.mem_cons_self
    have h2 : z_one l = true := by
      unfold z_one at h ⊢
      simp only [List.all_cons, Bool.and_eq_true] at h
      exact h.2
    have := ih h2
    simp only [lg_sl, List.map_cons, List.flatMap_cons, List.length_append, List.length_cons] at this ⊢
    rw [this, h1]
    simp
    omega
theorem z_noTab {c : Code} {hh : List (Nat × Nat × Nat × Nat)} (h : hh.isEmpty = true) (hex : ∀ x ∈ c.exceptionTable.toList, False) : c.exceptionTable.toList = tableOf hh := by
  rw [List.isEmpty_iff.mp h]
  exact List.eq_nil_iff_forall_not_mem.mpr hex
theorem z_tabNo {c : Code} {hh : List (Nat × Nat × Nat × Nat)} (h : hh = []) (hex : c.exceptionTable.toList = tableOf hh) : ∀ x ∈ c.exceptionTable.toList, False := by
  rw [hex, h]
  intro x hx
  simp [tableOf] at hx
/-- from the beginning of a body: a call -/
theorem z_enter {Y : zY} {as : List zV} {k : Nat} (hp : (plainName Y.1.cls && Y.2.2.2.2.2.2.2.1.isEmpty) = true) (h1 : z_one as = true) (hk : as.length + k = Y.2.2.1)
    (body : z_Ex Y S 0 (as ++ List.replicate k (9, 0)) [] M Y.2.2.2.2.2.1 Y.2.2.2.2.2.2.1 Q) (hK9 : ∀ C s, Y.2.2.2.2.2.2.2.2 C s := by exact fun _ _ => trivial) : z_Call Y S as M Q := by
  simp only [Bool.and_eq_true] at hp
  intro C l hl hok
  refine vx_ofW (cc := Y.2.1) (maxL := Y.2.2.1) (ret := Y.2.2.2.1) hp.1 rfl ?_
  intro p e s m args below meth c s₁ B hml hex hv
  obtain ⟨rfl, ⟨hP, hsz, hokM⟩, hbase, hK, hKC⟩ := hv
  have hts := atoms_spec (ws := z_wsY Y) B.pre
  rw [lg_entry_eq]
  have hle := lv_entry (as.map (z_cv C)) (n := Y.2.2.1) (by rw [z_sl_len h1]; omega)
  refine body C p l e s m _ below meth c s.heap [] 0 0 _ ⟨B.exec, B.bytes, B.returns, hml, findClass_of_methodNamed B.named, fun w hw => hts w (List.mem_cons_of_mem _ hw), (name_of_methodNamed B.named B.method).1, B.notSynchronized, z_noTab hp.2 hex, hl, hbase, hK, hKC, hK9 C s⟩ ⟨z_has_sub hle ?_, hP, va_S.rf, hsz, hokM, ?_, (fun v hv => by cases hv), by omega, by omega⟩
  · intro q hq
    obtain ⟨w, g1, g2, g3⟩ := z_lv_of hq
    by_cases hi : q.1 < as.length
    · rw [List.getElem?_append_left hi] at g1
      have := z_lv_entry (C := C) h1 0 q.1 w g1
      rw [Nat.zero_add, ← g3] at this
      exact this
    · rw [List.getElem?_append_right (by omega)] at g1
      have := List.mem_of_getElem? g1
      have := List.eq_of_mem_replicate this
      rw [this] at g2
      exact absurd rfl g2
  · intro v hv
    rcases List.mem_append.mp hv with h | h
    · exact hok v h
    · rw [List.eq_of_mem_replicate h]
      exact fun h => absurd h (show ¬ (9 : Nat) ≤ 2 by decide)
theorem z_call_mono {Y : zY} {as : List zV} {P Q : zV → zS → zM → Prop} (h : z_Call Y S as M P) (hpq : ∀ r S M, P r S M → Q r S M) : z_Call Y S as M Q := by
  intro C l hl hok p e a1 a2 a3 s m args below h1 h2 h3 h4
  obtain ⟨n, o, x1, x2, x3, x4⟩ := h C l hl hok p e a1 a2 a3 s m args below h1 h2 h3 h4
  refine ⟨n, o, x1, x2, x3, ?_⟩
  rcases x4 with ⟨⟨⟨r, S1, M1, g1, g2, g3, g4, g5⟩, hF⟩, hL⟩ | ⟨q, ho, E, ce, L, ⟨⟨k, S1, M1, g1, g2, g3⟩, hF⟩, hr⟩
  · exact Or.inl ⟨⟨⟨r, S1, M1, g1, g2, g3, hpq _ _ _ g4, g5⟩, hF⟩, hL⟩
  · exact Or.inr ⟨q, ho, E, ce, L, ⟨⟨k, S1, M1, g1, hpq _ _ _ g2, g3⟩, hF⟩, hr⟩
end ZE
section ZC
variable {Y : zY} {S : zS} {pc q : Nat} {ls st : List zV} {M : zM} {bc bs : Nat} {Q : zV → zS → zM → Prop}
def z_ps (r : zV) (st : List zV) : List zV := if r.1 = 9 then st else r :: st
theorem z_ps_map {C : zC} {r : zV} {st : List zV} : (z_ps r st).map (z_cv C) = (z_ret C r).toList ++ st.map (z_cv C) := by
  unfold z_ps z_ret
  split <;> rfl
theorem z_B_blind {C : zC} {as : List Value} {S : zS} {M : zM} : FrameBlind (va_Pc as (z_B C S M)) := by
  intro a U g mk h
  obtain ⟨h1, h2, h3, h4, h5⟩ := h
  refine ⟨h1, h2, h3, va_K.moved (u := U) (U := U.calling g mk a) (Vm.Alike.refl U.vm) h4, ?_⟩
  exact ⟨h5.1.warm (State.WarmedH.refl U), h5.2.moved (Vm.Alike.refl U.vm)⟩
/-- behind a call -/
theorem z_behind {Y' : zY} {P : zV → zS → zM → Prop} {C : zC} {p : Program} {l : Launch} {e : Env} {s : State} {m : MethodId} {args : Array Value} {below : List Frame} {meth : Method} {cc : Code} {H : Heap} {locs : List Loc} {cells slots : Nat} {lsA : Array Slot} {st0 : List Value} {a : Array Value}
    (F : z_Fix Y C p l s m args meth cc) (St : z_St Y C S s ls st M H locs lsA cells slots bc bs) (hT9 : Y.2.2.2.2.2.2.2.1 = []) (hmc : Y'.2.2.2.2.2.1 ≤ bc) (hms : Y'.2.2.2.2.2.2.1 ≤ bs)
    (hr : vx_Run p l e (z_rm Y) s m args below meth cc H locs cells slots Y'.2.2.2.2.2.1 Y'.2.2.2.2.2.2.1 (F0 m pc lsA st0) (st.map (z_cv C)) (z_Q C P a) (z_X C P) (z_A C))
    (kn : ∀ r S' M', r.1 ≠ 8 → P r S' M' → z_Ex Y S' (pc + 3) ls (z_ps r st) M' (bc - Y'.2.2.2.2.2.1) (bs - Y'.2.2.2.2.2.2.1) Q) (kx : ∀ k S' M', P (8, k) S' M' → Q (8, k) S' M') :
    W p l e (z_rm Y) s m args below meth cc H locs cells slots (z_MQ Y C below Q args s) (F0 m pc lsA st0) := by
  obtain ⟨hx, hb, hr9, hml, hown, hts, hnm, hlk, hex, hst, hbase, hK, hKC, hCX⟩ := id F
  obtain ⟨hl, hP, hS, hsz, hokM, hokl, hoks, hc1, hc2⟩ := id St
  intro T hT X
  rcases hr T hT X with ⟨v, st₀, t, T', L, h0, X', hL, e1, e2, ⟨⟨r, S', M', ho, h8, hok, hPr, hP1, hsz1, hok1⟩, hF⟩, stp⟩ | ⟨q9, st₀, t, T', L, E, ce, h0, X', hL, e1, e2, ⟨⟨k, S', M', hE, hPr, hP1, hsz1, hok1⟩, hF⟩, hce, hcv, hcl, stp⟩
  · obtain ⟨k1, k2, k3⟩ := vx_keep (A0 := z_A C) (A1 := z_A C) h0 e1 hS (fun _ _ h => h) (fun _ h => h) hL hF
    have hv : v = z_ret C r := Outcome.returned.inj ho
    have w1 := kn r S' M' h8 hPr C p l e s m args below meth cc T'.heap (locs ++ L) (cells + Y'.2.2.2.2.2.1) (slots + Y'.2.2.2.2.2.2.1) lsA F ⟨hl, by rw [e1]; exact hP1, k3, by rw [e1]; exact hsz1, hok1, hokl, (by
      unfold z_ps
      split
      · exact hoks
      · exact z_okc hok hoks), by omega, by omega⟩
    rw [z_ps_map, ← hv] at w1
    obtain ⟨t2, a1, b1⟩ := w1 T' rfl X'
    exact ⟨t2, stp t2 a1, b1⟩
  · obtain ⟨k1, k2, k3⟩ := vx_keep (A0 := z_A C) (A1 := z_A C) h0 e1 hS (fun _ _ h => h) (fun _ h => h) hL hF
    have w1 : vx_W p l e (z_rm Y) s m args below meth cc T'.heap (locs ++ L) (cells + Y'.2.2.2.2.2.1) (slots + Y'.2.2.2.2.2.2.1) (z_MQ Y C below Q args s) (F0 m pc lsA (st.map (z_cv C))) q9 := by
      refine vx_out (fun x hx => (z_tabNo hT9 hex x hx).elim) hlk (by rw [e1]; exact hce) hcv hcl (fun u hu _ => ?_) k3.2.2 (by omega) (by omega)
      exact ⟨⟨k, S', M', hE, kx k S' M' hPr, by rw [hu, e1]; exact hP1, by rw [hu, e1]; exact hsz1, hok1⟩, k3.F hu⟩
    obtain ⟨t2, a1, b1⟩ := w1 T' rfl X'
    exact ⟨t2, stp.trans a1, b1⟩
/-- what every call asks of the callee -/
def z_Mth (Y' : zY) (n : Nat) : Prop := Cond.code Y'.1 Y'.2.1 Y'.2.2.1 Y'.2.2.2.1 ∈ z_all ∧ Cond.initialized Y'.1.cls ∈ z_all ∧ Y'.1.cls ≠ "java/lang/invoke/MethodHandle" ∧ Y'.1.cls ≠ "java/lang/invoke/VarHandle" ∧ (parseMethodDescriptor Y'.1.desc).map (fun d => d.parameters.length) = some n
def z_rmle (Y Y' : zY) : Prop := Y'.2.2.2.2.1.1 + 1 ≤ Y.2.2.2.2.1.1 ∧ 8 + (Y'.2.2.1 + 11) + Y'.2.2.2.2.1.2 ≤ Y.2.2.2.2.1.2 ∧ Y.2.2.2.2.2.2.2.1 = []
theorem z_pre {C : zC} {s : State} {as : List zV} {H : Heap} {locs : List Loc} (hP : va_P C.2.2.1 z_cl (z_W C S M) H) (hS : va_S (z_A C) s.heap H locs) (hsz : S.1 = true → H.size = C.1 + S.2.1) (hok : z_okM S M) (hbase : C.1 ≤ s.heap.size) (hK : va_K C.2.2.1 z_cl (z_tys C) s) (hKC : z_KC C s s.heap) :
    ∀ U : State, U.heap = H → s.WarmedH U.vm → va_Pc (as.map (z_cv C)) (z_B C S M) (as.map (z_cv C)).toArray U := by
  intro U hU hW
  refine ⟨rfl, ⟨by rw [hU]; exact hP, by rw [hU]; exact hsz, hok⟩, by rw [hU]; exact Nat.le_trans hbase hS.1, va_K.moved hW.alike hK, hKC.1.warm hW, ?_⟩
  rw [hU]
  exact (hKC.2.kept hS.2.1).moved hW.alike
/-- a call of a method of one of our objects (private ones of the same class too) -/
theorem zr_callV {Y' : zY} {P : zV → zS → zM → Prop} {as : List zV} {z : Int} {idx n c : Nat} (hc : z_Call Y' S ((1, z) :: as) M P) (hY : z_Mth Y' n) (hi : Cond.instanceMethod Y'.1 ∈ z_all) (hsel : Cond.selects Y'.1.cls Y'.1 Y'.1 ∈ z_all) (hl9 : Cond.methodLink Y.1.cls idx Y'.1 ∈ z_all)
    (hd : decode Y.2.1 pc = .ok (.invokevirtual idx, 3)) (hq : pc + 3 = q) (hn : as.length = n) (hrm : z_rmle Y Y') (h1 : 0 < z) (h2 : z ≤ S.2.1) (hk : (S.2.2 z).1 = c) (hc10 : c < 10) (hcls : z_cl[c]?.map (fun r => r.1) = some Y'.1.cls) (hst : z_one st = true) (hsl : st.length ≤ 8) (hmc : Y'.2.2.2.2.2.1 ≤ bc) (hms : Y'.2.2.2.2.2.2.1 ≤ bs)
    (kn : ∀ r S' M', r.1 ≠ 8 → P r S' M' → z_Ex Y S' q ls (z_ps r st) M' (bc - Y'.2.2.2.2.2.1) (bs - Y'.2.2.2.2.2.2.1) Q) (kx : ∀ k S' M', P (8, k) S' M' → Q (8, k) S' M') : z_Ex Y S pc ls (as.reverse ++ (1, z) :: st) M bc bs Q := by
  intro C p l e s m args below meth cc H locs cells slots lsA F St
  obtain ⟨hx, hb, hr9, hml, hown, hts, hnm, hlk, hex, hst9, hbase, hK, hKC, hCX⟩ := id F
  obtain ⟨hl, hP, hS, hsz, hokM, hokl, hoks, hc1, hc2⟩ := id St
  subst hq
  have hg := z_W_get (C := C) (S := S) (M := M) h1 h2
  rw [z_ob_cls (by rw [hk]; exact hc10), hk] at hg
  obtain ⟨r, hr, hrn⟩ : ∃ r, z_cl[c]? = some r ∧ r.1 = Y'.1.cls := by
    cases h : z_cl[c]? with
    | none => rw [h] at hcls; cases hcls
    | some r => rw [h] at hcls; exact ⟨r, rfl, Option.some.inj hcls⟩
  have hrecv := va_recv hK hP hr hg
  rw [hrn] at hrecv
  have hoka : ∀ v ∈ (1, z) :: as, z_ok v := by
    intro v hv
    rcases List.mem_cons.mp hv with h | h
    · exact hoks v (by rw [h]; exact List.mem_append_right _ List.mem_cons_self)
    · exact hoks v (List.mem_append_left _ (List.mem_reverse.mpr h))
  have hM := hc C l hst9 hoka
  have hok9 : ∀ v ∈ st, z_ok v := fun v hv => hoks v (List.mem_append_right _ (List.mem_cons_of_mem _ hv))
  have estk : (as.reverse ++ (1, z) :: st).map (z_cv C) = (as.map (z_cv C)).reverse ++ .ref (C.1 + (z.toNat - 1)) :: st.map (z_cv C) := by
    rw [List.map_append, List.map_reverse, List.map_cons]
    congr 2
    exact z_rf_pos h1
  have ea : ((1, z) :: as).map (z_cv C) = Value.ref (C.1 + (z.toNat - 1)) :: as.map (z_cv C) := by
    rw [List.map_cons]
    congr 1
    exact z_rf_pos h1
  have hpre := z_pre (as := (1, z) :: as) hP hS hsz hokM hbase hK hKC
  rw [estk]
  rw [ea] at hM hpre
  have cw : CallW (z_rm Y) s args Y.1.cls Y'.1.cls idx Y'.1 Y'.2.1 Y'.2.2.1 Y'.2.2.2.1 (z_wsY Y') (z_rm Y') Y'.2.2.2.2.2.1 Y'.2.2.2.2.2.2.1 n :=
    ⟨callB_of n hts (z_goodY hY.1) rfl rfl rfl (hts _ hY.2.1) (hts _ hl9) hY.2.2 ⟨hrm.1, hrm.2.1⟩, hts _ hi, hts _ hsel⟩
  have hr := vx_runV (H := H) (locs := locs) (cells := cells) (slots := slots) (e := e) (below := below) (meth := meth) (rest := st.map (z_cv C)) (g := F0 m pc lsA ((as.map (z_cv C)).reverse ++ .ref (C.1 + (z.toNat - 1)) :: st.map (z_cv C))) ⟨hx, hb, hml, hown, hts⟩ hM cw ⟨z_B_blind, hrecv, hpre⟩ rfl (by rw [List.length_map]; exact hn) hl.1 rfl (lv_room (by rw [z_one_sum hst]; exact hsl)) hd ⟨(by show cells + _ ≤ Y.2.2.2.2.2.1; omega), (by show slots + _ ≤ Y.2.2.2.2.2.2.1; omega)⟩
  exact z_behind (st := st) F ⟨hl, hP, hS, hsz, hokM, hokl, hok9, hc1, hc2⟩ hrm.2.2 hmc hms hr kn kx
/-- a call of a static method of a class of ours -/
theorem zr_callS {Y' : zY} {P : zV → zS → zM → Prop} {as : List zV} {idx n : Nat} (hc : z_Call Y' S as M P) (hY : z_Mth Y' n) (hi : Cond.static Y'.1 ∈ z_all) (hl9 : Cond.methodLink Y.1.cls idx Y'.1 ∈ z_all)
    (hd : decode Y.2.1 pc = .ok (.invokestatic idx, 3)) (hq : pc + 3 = q) (hn : as.length = n) (hrm : z_rmle Y Y') (hst : z_one st = true) (hsl : st.length ≤ 8) (hmc : Y'.2.2.2.2.2.1 ≤ bc) (hms : Y'.2.2.2.2.2.2.1 ≤ bs)
    (kn : ∀ r S' M', r.1 ≠ 8 → P r S' M' → z_Ex Y S' q ls (z_ps r st) M' (bc - Y'.2.2.2.2.2.1) (bs - Y'.2.2.2.2.2.2.1) Q) (kx : ∀ k S' M', P (8, k) S' M' → Q (8, k) S' M') : z_Ex Y S pc ls (as.reverse ++ st) M bc bs Q := by
  intro C p l e s m args below meth cc H locs cells slots lsA F St
  obtain ⟨hx, hb, hr9, hml, hown, hts, hnm, hlk, hex, hst9, hbase, hK, hKC, hCX⟩ := id F
  obtain ⟨hl, hP, hS, hsz, hokM, hokl, hoks, hc1, hc2⟩ := id St
  subst hq
  have hM := hc C l hst9 (fun v hv => hoks v (List.mem_append_left _ (List.mem_reverse.mpr hv)))
  have hok9 : ∀ v ∈ st, z_ok v := fun v hv => hoks v (List.mem_append_right _ hv)
  have estk : (as.reverse ++ st).map (z_cv C) = (as.map (z_cv C)).reverse ++ st.map (z_cv C) := by
    rw [List.map_append, List.map_reverse]
  have hpre := z_pre (as := as) hP hS hsz hokM hbase hK hKC
  rw [estk]
  have cw : CallB (z_rm Y) s args Y.1.cls idx Y'.1 Y'.2.1 Y'.2.2.1 Y'.2.2.2.1 (z_wsY Y') (z_rm Y') Y'.2.2.2.2.2.1 Y'.2.2.2.2.2.2.1 n ∧ (Cond.static Y'.1).before args s = true :=
    ⟨callB_of n hts (z_goodY hY.1) rfl rfl rfl (hts _ hY.2.1) (hts _ hl9) hY.2.2 ⟨hrm.1, hrm.2.1⟩, hts _ hi⟩
  have hr := vx_runS (H := H) (locs := locs) (cells := cells) (slots := slots) (e := e) (below := below) (meth := meth) (rest := st.map (z_cv C)) (g := F0 m pc lsA ((as.map (z_cv C)).reverse ++ st.map (z_cv C))) ⟨hx, hb, hml, hown, hts⟩ hM cw ⟨z_B_blind, hpre⟩ rfl (by rw [List.length_map]; exact hn) hl.1 rfl (lv_room (by rw [z_one_sum hst]; exact hsl)) hd ⟨(by show cells + _ ≤ Y.2.2.2.2.2.1; omega), (by show slots + _ ≤ Y.2.2.2.2.2.2.1; omega)⟩
  exact z_behind (st := st) F ⟨hl, hP, hS, hsz, hokM, hokl, hok9, hc1, hc2⟩ hrm.2.2 hmc hms hr kn kx
end ZC
