/-! ===== the logic: a memory of whole numbers over the kit's worlds ===== -/
abbrev zV : Type := Nat × Int
abbrev zM : Type := Int → Int → Int
/-- shape: is the heap exactly ours; how many objects; kind and length of each -/
abbrev zS : Type := Bool × Nat × (Int → Nat × Nat)
/-- base address, constants' addresses, classes and slots, array classes -/
abbrev zC : Type := Nat × (Nat → Nat) × va_G × (Nat → ClassId)
/-- a method: name, code, locals, return type, (frames, words below), (cells, slots) -/
abbrev zY : Type := MethodName × ByteArray × Nat × Option FieldType × (Nat × Nat) × (Nat × Nat)
def z_cl : List vw_C := [(RX1, TX1, 7), (RX2, TX2, 3), (RX3, TX3, 4), (RX5, TX5, 3), (RX6, TX6, 2), (RX7, TX7, 5), (RX8, TX8, 5), (RX9, TX9, 2), (RX11, TX11, 13), (RX12, TX12, 24)]
def z_tags : List (List Nat) := [[0,1,1,0,0,1,0],[0,0,1],[1,0,0,0],[1,0,0],[1,1],[1,0,1,1,0],[1,0,0,0,0],[1,0],[1,1,1,0,1,1,1,1,1,1,1,0,0],[1,1,1,1,0,0,0,0,1,0,0,0,1,0,1,1,1,1,0,0,0,0,1,0]]
def z_all : List Cond := lw_tbl.filter goodWord
def z_A (C : zC) : Nat → Prop := fun q => C.1 ≤ q
def z_rf (C : zC) (z : Int) : Option Nat := if z = 0 then none else if 0 < z then some (C.1 + (z.toNat - 1)) else some (C.2.1 (-z).toNat)
def z_cv (C : zC) (v : zV) : Value := match v.1 with
  | 0 => .int (Int32.ofInt v.2)
  | 1 => va_rf (z_rf C v.2)
  | 2 => .long (Int64.ofInt v.2)
  | 3 => .float (UInt32.ofNat v.2.toNat)
  | _ => .double (UInt64.ofNat v.2.toNat)
def z_tys (C : zC) : List (ClassId × FieldType) := [(C.2.2.2 0, .int), (C.2.2.2 1, .boolean), (C.2.2.2 2, .char), (C.2.2.2 3, .long), (C.2.2.2 4, .double), (C.2.2.2 5, .object RX1), (C.2.2.2 6, .object RX2), (C.2.2.2 7, .object RX8)]
/-- what an object of a kind holds: classes 0 to 9, arrays 10 int, 11 boolean, 12 char, 13 long, 14 double, 15 to 17 of objects -/
def z_ob (C : zC) (kd : Nat × Nat) (f : Int → Int) : va_E := match kd.1 with
  | 10 => .inl (C.2.2.2 0, kd.2, .inl fun j => Int32.ofInt (f j))
  | 11 => .inl (C.2.2.2 1, kd.2, .inl fun j => Int32.ofInt (f j))
  | 12 => .inl (C.2.2.2 2, kd.2, .inl fun j => Int32.ofInt (f j))
  | 13 => .inl (C.2.2.2 3, kd.2, .inr (.inl fun j => Int64.ofInt (f j)))
  | 14 => .inl (C.2.2.2 4, kd.2, .inr (.inr (.inr (.inl fun j => UInt64.ofNat (f j).toNat))))
  | 15 => .inl (C.2.2.2 5, kd.2, .inr (.inr (.inr (.inr fun j => z_rf C (f j)))))
  | 16 => .inl (C.2.2.2 6, kd.2, .inr (.inr (.inr (.inr fun j => z_rf C (f j)))))
  | 17 => .inl (C.2.2.2 7, kd.2, .inr (.inr (.inr (.inr fun j => z_rf C (f j)))))
  | c => .inr (c, (z_tags.getD c []).zipIdx.map fun q => z_cv C (q.1, f q.2))
def z_W (C : zC) (S : zS) (M : zM) : va_W := (List.range S.2.1).map fun i => (C.1 + i, z_ob C (S.2.2 ((i : Int) + 1)) (M ((i : Int) + 1)))
def z_up (M : zM) (z j v : Int) : zM := fun a b => if a = z ∧ b = j then v else M a b
def z_in (z : Int) : Prop := -2147483648 ≤ z ∧ z < 2147483648
def z_ok (v : zV) : Prop := v.1 ≤ 2 → z_in v.2
def z_okM (S : zS) (M : zM) : Prop := ∀ z j, (S.2.2 z).1 ≠ 14 → z_in (M z j)
def z_ex (k : Int) : String := if k = 0 then "java/lang/IndexOutOfBoundsException" else if k = 1 then "java/lang/IllegalArgumentException" else if k = 2 then "java/lang/IllegalStateException" else if k = 3 then "java/lang/ArithmeticException" else "java/util/NoSuchElementException"
/-- what stands from the start and is never written -/
def z_KC (C : zC) (s : State) (H : Heap) : Prop :=
  vx_Zq Bundle.tN "UNASSIGNED_STACK" Bundle.steD (z_A C) s H ∧ vx_Zq Bundle.tN "SUPPRESSED_SENTINEL" Bundle.listD (z_A C) s H
def z_Wd (C : zC) (S : zS) (M : zM) (H : Heap) : Prop := va_P C.2.2.1 z_cl (z_W C S M) H ∧ (S.1 = true → H.size = C.1 + S.2.1) ∧ z_okM S M
def z_ret (C : zC) (r : zV) : Option Value := if r.1 = 9 then none else some (z_cv C r)
def z_Q (C : zC) (Q : zV → zS → zM → Prop) : Array Value → State → Outcome → State → Prop := fun _ st o t =>
  (∃ r S M, o = .returned (z_ret C r) ∧ r.1 ≠ 8 ∧ z_ok r ∧ Q r S M ∧ z_Wd C S M t.heap) ∧ va_F (z_A C) st t
def z_X (C : zC) (Q : zV → zS → zM → Prop) : String → State → State → Prop := fun E st t =>
  (∃ k S M, E = z_ex k ∧ Q (8, k) S M ∧ z_Wd C S M t.heap) ∧ va_F (z_A C) st t
def z_rm (Y : zY) : Room := { frames := Y.2.2.2.2.1.1, cells := Y.2.2.2.2.2.1, slots := Y.2.2.2.2.2.2, locals := Y.2.2.2.2.1.2 }
def z_wsY (Y : zY) : List Cond := .code Y.1 Y.2.1 Y.2.2.1 Y.2.2.2.1 :: z_all
def z_lv (C : zC) (ls : List zV) : List (Nat × Value) := ls.zipIdx.filterMap fun q => if q.1.1 = 9 then none else some (q.2, z_cv C q.1)
def z_Fix (Y : zY) (C : zC) (p : Program) (l : Launch) (s : State) (m : MethodId) (args : Array Value) (meth : Method) (c : Code) : Prop :=
  p.tables.exec = Jvm.exec ∧ c.code = Y.2.1 ∧ meth.sig.returnType = Y.2.2.2.1 ∧ c.maxLocals = Y.2.2.1 ∧ s.vm.findClass Y.1.cls = some m.cls ∧ (∀ w ∈ z_all, w.before args s = true) ∧ meth.name = Y.1.name ∧ meth.locks = false ∧ (∀ x ∈ c.exceptionTable.toList, False) ∧ l.stackTraces = false ∧ C.1 ≤ s.heap.size ∧ va_K C.2.2.1 z_cl (z_tys C) s ∧ z_KC C s s.heap
def z_St (Y : zY) (C : zC) (S : zS) (s : State) (ls st : List zV) (M : zM) (H : Heap) (locs : List Loc) (lsA : Array Slot) (cells slots bc bs : Nat) : Prop :=
  lv_has lsA Y.2.2.1 (z_lv C ls) ∧ va_P C.2.2.1 z_cl (z_W C S M) H ∧ va_S (z_A C) s.heap H locs ∧ (S.1 = true → H.size = C.1 + S.2.1) ∧ z_okM S M ∧ (∀ v ∈ ls, z_ok v) ∧ (∀ v ∈ st, z_ok v) ∧ cells + bc ≤ Y.2.2.2.2.2.1 ∧ slots + bs ≤ Y.2.2.2.2.2.2
def z_MQ (Y : zY) (C : zC) (below : List Frame) (Q : zV → zS → zM → Prop) (args : Array Value) (s : State) : State → Prop :=
  vx_MQ below (z_Q C Q) (z_X C Q) args s Y.2.2.2.2.2.1 Y.2.2.2.2.2.2 (z_A C)
/-- from here, with these locals, this stack and this memory, and so many cells and slots to spend, the method comes to its end with Q -/
def z_Ex (Y : zY) (S : zS) (pc : Nat) (ls st : List zV) (M : zM) (bc bs : Nat) (Q : zV → zS → zM → Prop) : Prop :=
  ∀ (C : zC) (p : Program) (l : Launch) (e : Env) (s : State) (m : MethodId) (args : Array Value) (below : List Frame) (meth : Method) (c : Code) (H : Heap) (locs : List Loc) (cells slots : Nat) (lsA : Array Slot),
    z_Fix Y C p l s m args meth c → z_St Y C S s ls st M H locs lsA cells slots bc bs →
      W p l e (z_rm Y) s m args below meth c H locs cells slots (z_MQ Y C below Q args s) (F0 m pc lsA (st.map (z_cv C)))
def z_B (C : zC) (S : zS) (M : zM) (U : State) : Prop := z_Wd C S M U.heap ∧ C.1 ≤ U.heap.size ∧ va_K C.2.2.1 z_cl (z_tys C) U ∧ z_KC C U U.heap
/-- method Y, called with these arguments over this memory, ends with Q -/
def z_Call (Y : zY) (S : zS) (as : List zV) (M : zM) (Q : zV → zS → zM → Prop) : Prop :=
  ∀ (C : zC) (l : Launch), l.stackTraces = false → (∀ v ∈ as, z_ok v) → vx_Met l Y.1 (z_wsY Y) (z_rm Y) (va_Pc (as.map (z_cv C)) (z_B C S M)) (z_Q C Q) (z_X C Q) Y.2.2.2.2.2.1 Y.2.2.2.2.2.2 (z_A C)
/-! worlds -/
theorem z_W_get {C : zC} {S : zS} {M : zM} {z : Int} (h1 : 0 < z) (h2 : z ≤ S.2.1) : (z_W C S M)[z.toNat - 1]? = some (C.1 + (z.toNat - 1), z_ob C (S.2.2 z) (M z)) := by
  have e : (((z.toNat - 1 : Nat) : Int) + 1) = z := by omega
  unfold z_W
  rw [List.getElem?_map, List.getElem?_range (by omega)]
  simp only [Option.map_some, e]
theorem z_W_D {C : zC} {S : zS} {M : zM} : va_D (z_A C) (z_W C S M) := by
  have key : ∀ (i : Nat) (q : Nat × va_E), (z_W C S M)[i]? = some q → q.1 = C.1 + i := by
    intro i q h
    unfold z_W at h
    rw [List.getElem?_map] at h
    cases hr : (List.range S.2.1)[i]? with
    | none => rw [hr] at h; cases h
    | some k =>
      rw [hr] at h
      have hk : k = i := by
        have := List.getElem?_eq_some_iff.mp hr
        obtain ⟨h1, h2⟩ := this
        simp at h2
        exact h2.symm
      subst hk
      cases h
      rfl
  refine ⟨fun i j p q h1 h2 h3 => ?_, fun k q h => ?_⟩
  · have a := key i p h1
    have b := key j q h2
    omega
  · show C.1 ≤ q.1
    rw [key k q h]
    omega
theorem z_W_set {C : zC} {S : zS} {M : zM} {z j v : Int} (h1 : 0 < z) {e : va_E} (he : e = z_ob C (S.2.2 z) (z_up M z j v z)) : (z_W C S M).set (z.toNat - 1) (C.1 + (z.toNat - 1), e) = z_W C S (z_up M z j v) := by
  apply List.ext_getElem?
  intro i
  rw [List.getElem?_set]
  by_cases hi : z.toNat - 1 = i
  · rw [if_pos hi]
    subst hi
    by_cases h2 : z ≤ S.2.1
    · rw [z_W_get h1 h2, he, if_pos (by simp [z_W]; omega)]
    · rw [if_neg (by simp [z_W]; omega)]
      symm
      apply List.getElem?_eq_none
      simp [z_W]; omega
  · rw [if_neg hi]
    unfold z_W
    rw [List.getElem?_map, List.getElem?_map]
    by_cases hl : i < S.2.1
    · rw [List.getElem?_range hl]
      simp only [Option.map_some]
      have : M ((i : Int) + 1) = z_up M z j v ((i : Int) + 1) := by
        funext b
        unfold z_up
        rw [if_neg]
        intro q
        omega
      rw [this]
    · rw [List.getElem?_eq_none (by simp; omega)]
