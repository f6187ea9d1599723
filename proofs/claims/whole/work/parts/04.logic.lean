/-! ===== the logic: a memory of whole numbers over the kit's worlds ===== -/
abbrev zV : Type := Nat × Int
abbrev zM : Type := Int → Int → Int
/-- shape: is the heap exactly ours; how many objects; kind and length of each -/
abbrev zS : Type := Bool × Nat × (Int → Nat × Nat)
/-- base address, constants' addresses, classes and slots, array classes -/
abbrev zC : Type := Nat × (Nat → Nat) × va_G × (Nat → ClassId)
/-- a method: name, code, locals, return type, (frames, words below), (cells, slots, its table of handlers, what else holds at its entry) -/
abbrev zY : Type := MethodName × ByteArray × Nat × Option FieldType × (Nat × Nat) × (Nat × Nat × List (Nat × Nat × Nat × Nat) × (zC → State → Prop))
def z_cl : List vw_C := [(RX1, TX1, 7), (RX2, TX2, 3), (RX3, TX3, 4), (RX5, TX5, 3), (RX6, TX6, 2), (RX7, TX7, 5), (RX8, TX8, 5), (RX9, TX9, 2), (RX11, TX11, 12), (RX12, TX12, 24)]
def z_tags : List (List Nat) := [[0,1,1,0,0,1,0],[0,0,1],[1,0,0,0],[1,0,0],[1,1],[1,0,1,1,0],[1,0,0,0,0],[1,0],[1,1,1,0,1,1,1,1,1,1,0,0],[1,1,1,1,0,0,0,0,1,0,0,0,1,0,1,1,1,1,0,0,0,0,1,0]]
def z_all : List Cond := lw_tbl.filter goodWord
def z_A (C : zC) : Nat → Prop := fun q => C.1 ≤ q
def z_rf (C : zC) (z : Int) : Option Nat := if z = 0 then none else if 0 < z then some (C.1 + (z.toNat - 1)) else some (C.2.1 (-z).toNat)
def z_cv (C : zC) (v : zV) : Value := match v.1 with
  | 0 => .int (Int32.ofInt v.2)
  | 1 => va_rf (z_rf C v.2)
  | 2 => .long (Int64.ofInt v.2)
  | 3 => .float (UInt32.ofNat v.2.toNat)
  | _ => .double (UInt64.ofNat v.2.toNat)
def z_tys (C : zC) : List (ClassId × FieldType) := [(C.2.2.2 0, .int), (C.2.2.2 1, .boolean), (C.2.2.2 2, .char), (C.2.2.2 3, .long), (C.2.2.2 4, .double), (C.2.2.2 5, .object RX1), (C.2.2.2 6, .object RX2), (C.2.2.2 7, .object RX8)]
/-- what an object of a kind holds: classes 0 to 9, arrays 10 int, 11 boolean, 12 char, 13 long, 14 double, 15 to 17 of objects -/
def z_ob (C : zC) (kd : Nat × Nat) (f : Int → Int) : va_E := match kd.1 with
  | 10 => .inl (C.2.2.2 0, kd.2, .inl fun j => Int32.ofInt (f j))
  | 11 => .inl (C.2.2.2 1, kd.2, .inl fun j => Int32.ofInt (f j))
  | 12 => .inl (C.2.2.2 2, kd.2, .inl fun j => Int32.ofInt (f j))
  | 13 => .inl (C.2.2.2 3, kd.2, .inr (.inl fun j => Int64.ofInt (f j)))
  | 14 => .inl (C.2.2.2 4, kd.2, .inr (.inr (.inr (.inl fun j => UInt64.ofNat (f j).toNat))))
  | 15 => .inl (C.2.2.2 5, kd.2, .inr (.inr (.inr (.inr fun j => z_rf C (f j)))))
  | 16 => .inl (C.2.2.2 6, kd.2, .inr (.inr (.inr (.inr fun j => z_rf C (f j)))))
  | 17 => .inl (C.2.2.2 7, kd.2, .inr (.inr (.inr (.inr fun j => z_rf C (f j)))))
  | c => .inr (c, (z_tags.getD c []).zipIdx.map fun q => z_cv C (q.1, f q.2))
def z_W (C : zC) (S : zS) (M : zM) : va_W := (List.range S.2.1).map fun i => (C.1 + i, z_ob C (S.2.2 ((i : Int) + 1)) (M ((i : Int) + 1)))
def z_up (M : zM) (z j v : Int) : zM := fun a b => if a = z ∧ b = j then v else M a b
def z_in (z : Int) : Prop := -2147483648 ≤ z ∧ z < 2147483648
def z_ok (v : zV) : Prop := v.1 ≤ 2 → z_in v.2
def z_okM (S : zS) (M : zM) : Prop := ∀ z j, 0 < z → z ≤ (S.2.1 : Int) → (S.2.2 z).1 ≠ 14 → z_in (M z j)
def z_ex (k : Int) : String := if k = 0 then "java/lang/IndexOutOfBoundsException" else if k = 1 then "java/lang/IllegalArgumentException" else if k = 2 then "java/lang/IllegalStateException" else if k = 3 then "java/lang/ArithmeticException" else "java/util/NoSuchElementException"
/-- words of the tables that are no good words, but stay -/
def z_isN : Cond → Bool
  | .methodLinkNest .. => true
  | .fieldLinkNest .. => true
  | .castable .. => true
  | .declares _ => true
  | .arrayOver (.object _) => true
  | _ => false
/-- the texts: class, entry, text -/
def z_sn : List (String × Nat × String) := [("WindElection", 321, "there is no such wind"), ("WindElection", 326, "there is no such ballot"), ("WindElection", 352, "the weight is not from 1 to 99"), ("WindElection", 354, "the ballot ranks the wind already"), ("WindElection", 356, "there are 8 winds"), ("WindElection", 358, "there are 20 ballots"), ("WindElection", 360, "the ballot ranks 5 winds"), ("WindElection", 362, "the wind does not stand"), ("WindElection", 191, "no wind stands"), ("WindElection", 136, "the ballot has no such rank"), ("WindElection", 334, "there is none"), ("WindElection", 332, "there is no such round"), ("WindElection", 174, "the wind does not continue in this round"), ("WindElection", 202, "no ballot counts in the last round"), ("WindElection", 265, "the line has no such character"), ("WindElection", 272, "there are no ballots"), ("WindElection", 282, "the character is not from 32 to 126"), ("WindElection", 290, "the buffer contains 60 characters"), ("WindElection", 302, "the text is malformed"), ("WindElection", 304, "a command failed"), ("WindElection", 310, "nothing can be undone"), ("WindElection", 313, "there is no snapshot"), ("WindElectionModel", 206, "allot"), ("WindElectionModel", 211, "pin"), ("WindElectionModel", 213, "ertify"), ("WindElectionModel", 193, "nk"), ("WindElectionModel", 202, "ove"), ("WindElectionModel", 204, "ount"), ("WindElectionModel", 218, "d"), ("WindElectionModel", 220, "hdraw"), ("WindElection$Word", 59, "wind"), ("WindElection$Word", 68, "ballot"), ("WindElection$Word", 65, "withdraw"), ("WindElection$Word", 71, "rank"), ("WindElection$Word", 74, "remove"), ("WindElection$Word", 77, "recount"), ("WindElection$Word", 80, "spin"), ("WindElection$Word", 83, "certify")]
def z_sl : List Nat := z_sn.map fun q => q.2.2.length
def z_sb : List (List Int32) := z_sn.map fun q => q.2.2.toList.map fun c => Int32.ofNat c.toNat
def z_exs : List String := ["java/lang/IndexOutOfBoundsException", "java/lang/IllegalArgumentException", "java/lang/IllegalStateException", "java/lang/ArithmeticException", "java/util/NoSuchElementException"]
def z_fn : List String := ["NONE", "NO_SUCH_WIND", "NO_SUCH_BALLOT", "WEIGHT_OUT_OF_RANGE", "RANKED_ALREADY", "TOO_MANY_WINDS", "TOO_MANY_BALLOTS", "TOO_MANY_RANKS", "NOT_STANDING", "NOBODY_STANDS"]
def z_wn : List String := ["WIND", "WITHDRAW", "BALLOT", "RANK", "REMOVE", "RECOUNT", "SPIN", "CERTIFY"]
def z_fF : List (String × String × String × List Int32) := [("java/lang/Enum", "ordinal", "I", [0, 1, 2, 3, 4, 5, 6, 7, 8, 9])]
def z_wF : List (String × String × String × List Int32) := [("java/lang/Enum", "ordinal", "I", [0, 1, 2, 3, 4, 5, 6, 7]), ("WindElection$Word", "firstDigits", "I", [0, 1, 2, 2, 2, 2, 0, 0]), ("WindElection$Word", "secondDigits", "I", [0, 0, 1, 1, 0, 2, 0, 0])]
/-- which text a word's letters are -/
def z_wl : List Nat := [30, 32, 31, 33, 34, 35, 36, 37]
def z_KA (C : zC) (U : State) : Prop := (∀ w ∈ lw_tbl, z_isN w = true → va_Nw w U) ∧ (∀ i, i < 38 → vk_R (z_sn.getD i default).1 (z_sn.getD i default).2.1 (z_sn.getD i default).2.2 (C.2.1 (100 + i)) U) ∧ (∀ a ∈ z_exs, ∀ b ∈ z_exs, a ≠ b → va_Nc a b U)
def z_KH (C : zC) (U : State) (H : Heap) : Prop :=
  vx_Zq Bundle.tN "UNASSIGNED_STACK" Bundle.steD (z_A C) U H ∧ vx_Zq Bundle.tN "SUPPRESSED_SENTINEL" Bundle.listD (z_A C) U H ∧
  va_En "WindElection$Fault" "LWindElection$Fault;" z_fn z_fF (fun i => C.2.1 (1 + i)) (z_A C) U H ∧
  va_En "WindElection$Word" "LWindElection$Word;" z_wn z_wF (fun i => C.2.1 (11 + i)) (z_A C) U H ∧
  va_Ef 8 "WindElection$Word" "letters" "Ljava/lang/String;" (fun i => .ref (C.2.1 (100 + z_wl.getD i 0))) (fun i => C.2.1 (11 + i)) (z_A C) U H ∧
  va_Z "WindElection" "WORDS" "[LWindElection$Word;" (.ref (C.2.1 19)) (z_A C) U H ∧ va_T (.object "WindElection$Word") (C.2.1 19) 8 (fun j => .ref (C.2.1 (11 + j))) (z_A C) U H ∧
  va_Z "WindElection$1" "$SwitchMap$WindElection$Fault" "[I" (.ref (C.2.1 20)) (z_A C) U H ∧ va_T .int (C.2.1 20) 10 (fun j => .int (Int32.ofInt j)) (z_A C) U H ∧
  va_Z "WindElection$1" "$SwitchMap$WindElection$Word" "[I" (.ref (C.2.1 21)) (z_A C) U H ∧ va_T .int (C.2.1 21) 8 (fun j => .int (Int32.ofInt (j + 1))) (z_A C) U H ∧
  va_Z "java/lang/String" "COMPACT_STRINGS" "Z" (.int 1) (z_A C) U H ∧ (va_Z "jdk/internal/util/Preconditions" "SIOOBE_FORMATTER" "Ljava/util/function/BiFunction;" .null (z_A C) U H ∨ va_Z "jdk/internal/util/Preconditions" "SIOOBE_FORMATTER" "Ljava/util/function/BiFunction;" (.ref (C.2.1 99)) (z_A C) U H) ∧
  vk_S 38 z_sl z_sb (fun i => C.2.1 (100 + i)) (fun i => C.2.1 (200 + i)) (z_A C) U H
/-- what stands from the start and is never written -/
def z_KC (C : zC) (s : State) (H : Heap) : Prop := z_KA C s ∧ z_KH C s H
theorem z_KA.warm {C : zC} {s U : State} (hW : s.WarmedH U.vm) (h : z_KA C s) : z_KA C U := by
  refine ⟨fun w hw hi => ?_, fun i hi => (h.2.1 i hi).warm hW, fun a ha b hb n => (h.2.2 a ha b hb n).moved hW.alike⟩
  have h1 := h.1 w hw hi
  cases w <;> first
    | exact va_Nw.warmM hW h1
    | exact va_Nw.warmF hW h1
    | exact va_Nw.warmC hW h1
    | exact va_Nw.warmD hW h1
    | (rename_i t; cases t <;> first | exact va_AO.moved hW.alike h1 | exact Bool.noConfusion hi)
    | exact Bool.noConfusion hi
theorem z_KH.moved {C : zC} {s U : State} {H : Heap} (hm : s.vm.Alike U.vm) (h : z_KH C s H) : z_KH C U H := by
  obtain ⟨h1, h2, h3, h4, h5, h6, h7, h8, h9, h10, h11, h12, h13, h14⟩ := h
  exact ⟨h1.moved hm, h2.moved hm, va_En.moved hm h3, va_En.moved hm h4, va_Ef.moved hm h5, va_Z.moved hm h6, va_T.moved hm h7, va_Z.moved hm h8, va_T.moved hm h9, va_Z.moved hm h10, va_T.moved hm h11, va_Z.moved hm h12, h13.imp (va_Z.moved hm) (va_Z.moved hm), vk_S.moved hm h14⟩
theorem z_KH.kept {C : zC} {s : State} {H H1 : Heap} (h : z_KH C s H) (hq : ∀ a : Nat, a < H.size → ¬ z_A C a → H1[a]? = H[a]?) : z_KH C s H1 := by
  obtain ⟨h1, h2, h3, h4, h5, h6, h7, h8, h9, h10, h11, h12, h13, h14⟩ := h
  exact ⟨h1.kept hq, h2.kept hq, h3.kept hq, h4.kept hq, h5.kept hq, h6.kept hq, h7.kept hq, h8.kept hq, h9.kept hq, h10.kept hq, h11.kept hq, h12.kept hq, h13.imp (fun h => h.kept hq) (fun h => h.kept hq), h14.kept hq⟩
def z_Wd (C : zC) (S : zS) (M : zM) (H : Heap) : Prop := va_P C.2.2.1 z_cl (z_W C S M) H ∧ (S.1 = true → H.size = C.1 + S.2.1) ∧ z_okM S M
def z_ret (C : zC) (r : zV) : Option Value := if r.1 = 9 then none else some (z_cv C r)
def z_Q (C : zC) (Q : zV → zS → zM → Prop) : Array Value → State → Outcome → State → Prop := fun _ st o t =>
  (∃ r S M, o = .returned (z_ret C r) ∧ r.1 ≠ 8 ∧ z_ok r ∧ Q r S M ∧ z_Wd C S M t.heap) ∧ va_F (z_A C) st t
def z_X (C : zC) (Q : zV → zS → zM → Prop) : String → State → State → Prop := fun E st t =>
  (∃ k S M, E = z_ex k ∧ Q (8, k) S M ∧ z_Wd C S M t.heap) ∧ va_F (z_A C) st t
def z_rm (Y : zY) : Room := { frames := Y.2.2.2.2.1.1, cells := Y.2.2.2.2.2.1, slots := Y.2.2.2.2.2.2.1, locals := Y.2.2.2.2.1.2 }
def z_wsY (Y : zY) : List Cond := .code Y.1 Y.2.1 Y.2.2.1 Y.2.2.2.1 :: z_all
def z_lv (C : zC) (ls : List zV) : List (Nat × Value) := ls.zipIdx.filterMap fun q => if q.1.1 = 9 then none else some (q.2, z_cv C q.1)
def z_Fix (Y : zY) (C : zC) (p : Program) (l : Launch) (s : State) (m : MethodId) (args : Array Value) (meth : Method) (c : Code) : Prop :=
  p.tables.exec = Jvm.exec ∧ c.code = Y.2.1 ∧ meth.sig.returnType = Y.2.2.2.1 ∧ c.maxLocals = Y.2.2.1 ∧ s.vm.findClass Y.1.cls = some m.cls ∧ (∀ w ∈ z_all, w.before args s = true) ∧ meth.name = Y.1.name ∧ meth.locks = false ∧ c.exceptionTable.toList = tableOf Y.2.2.2.2.2.2.2.1 ∧ l.stackTraces = false ∧ C.1 ≤ s.heap.size ∧ va_K C.2.2.1 z_cl (z_tys C) s ∧ z_KC C s s.heap ∧ Y.2.2.2.2.2.2.2.2 C s
def z_St (Y : zY) (C : zC) (S : zS) (s : State) (ls st : List zV) (M : zM) (H : Heap) (locs : List Loc) (lsA : Array Slot) (cells slots bc bs : Nat) : Prop :=
  lv_has lsA Y.2.2.1 (z_lv C ls) ∧ va_P C.2.2.1 z_cl (z_W C S M) H ∧ va_S (z_A C) s.heap H locs ∧ (S.1 = true → H.size = C.1 + S.2.1) ∧ z_okM S M ∧ (∀ v ∈ ls, z_ok v) ∧ (∀ v ∈ st, z_ok v) ∧ cells + bc ≤ Y.2.2.2.2.2.1 ∧ slots + bs ≤ Y.2.2.2.2.2.2.1
def z_MQ (Y : zY) (C : zC) (below : List Frame) (Q : zV → zS → zM → Prop) (args : Array Value) (s : State) : State → Prop :=
  vx_MQ below (z_Q C Q) (z_X C Q) args s Y.2.2.2.2.2.1 Y.2.2.2.2.2.2.1 (z_A C)
/-- from here, with these locals, this stack and this memory, and so many cells and slots to spend, the method comes to its end with Q -/
def z_Ex (Y : zY) (S : zS) (pc : Nat) (ls st : List zV) (M : zM) (bc bs : Nat) (Q : zV → zS → zM → Prop) : Prop :=
  ∀ (C : zC) (p : Program) (l : Launch) (e : Env) (s : State) (m : MethodId) (args : Array Value) (below : List Frame) (meth : Method) (c : Code) (H : Heap) (locs : List Loc) (cells slots : Nat) (lsA : Array Slot),
    z_Fix Y C p l s m args meth c → z_St Y C S s ls st M H locs lsA cells slots bc bs →
      W p l e (z_rm Y) s m args below meth c H locs cells slots (z_MQ Y C below Q args s) (F0 m pc lsA (st.map (z_cv C)))
def z_B (C : zC) (S : zS) (M : zM) (U : State) : Prop := z_Wd C S M U.heap ∧ C.1 ≤ U.heap.size ∧ va_K C.2.2.1 z_cl (z_tys C) U ∧ z_KC C U U.heap
/-- method Y, called with these arguments over this memory, ends with Q -/
def z_Call (Y : zY) (S : zS) (as : List zV) (M : zM) (Q : zV → zS → zM → Prop) : Prop :=
  ∀ (C : zC) (l : Launch), l.stackTraces = false → (∀ v ∈ as, z_ok v) → vx_Met l Y.1 (z_wsY Y) (z_rm Y) (va_Pc (as.map (z_cv C)) (z_B C S M)) (z_Q C Q) (z_X C Q) Y.2.2.2.2.2.1 Y.2.2.2.2.2.2.1 (z_A C)
/-! worlds -/
theorem z_W_get {C : zC} {S : zS} {M : zM} {z : Int} (h1 : 0 < z) (h2 : z ≤ S.2.1) : (z_W C S M)[z.toNat - 1]? = some (C.1 + (z.toNat - 1), z_ob C (S.2.2 z) (M z)) := by
  have e : (((z.toNat - 1 : Nat) : Int) + 1) = z := by omega
  unfold z_W
  rw [List.getElem?_map, List.getElem?_range (by omega)]
  simp only [Option.map_some, e]
theorem z_W_D {C : zC} {S : zS} {M : zM} : va_D (z_A C) (z_W C S M) := by
  have key : ∀ (i : Nat) (q : Nat × va_E), (z_W C S M)[i]? = some q → q.1 = C.1 + i := by
    intro i q h
    unfold z_W at h
    rw [List.getElem?_map] at h
    cases hr : (List.range S.2.1)[i]? with
    | none => rw [hr] at h; cases h
    | some k =>
      rw [hr] at h
      have hk : k = i := by
        have := List.getElem?_eq_some_iff.mp hr
        obtain ⟨h1, h2⟩ := this
        simp at h2
        exact h2.symm
      subst hk
      cases h
      rfl
  refine ⟨fun i j p q h1 h2 h3 => ?_, fun k q h => ?_⟩
  · have a := key i p h1
    have b := key j q h2
    omega
  · show C.1 ≤ q.1
    rw [key k q h]
    omega
theorem z_W_set {C : zC} {S : zS} {M : zM} {z j v : Int} (h1 : 0 < z) {e : va_E} (he : e = z_ob C (S.2.2 z) (z_up M z j v z)) : (z_W C S M).set (z.toNat - 1) (C.1 + (z.toNat - 1), e) = z_W C S (z_up M z j v) := by
  apply List.ext_getElem?
  intro i
  rw [List.getElem?_set]
  by_cases hi : z.toNat - 1 = i
  · rw [if_pos hi]
    subst hi
    by_cases h2 : z ≤ S.2.1
    · rw [z_W_get h1 h2, he, if_pos (by simp [z_W]; omega)]
    · rw [if_neg (by simp [z_W]; omega)]
      symm
      apply List.getElem?_eq_none
      simp [z_W]; omega
  · rw [if_neg hi]
    unfold z_W
    rw [List.getElem?_map, List.getElem?_map]
    by_cases hl : i < S.2.1
    · rw [List.getElem?_range hl]
      simp only [Option.map_some]
      have : M ((i : Int) + 1) = z_up M z j v ((i : Int) + 1) := by
        funext b
        unfold z_up
        rw [if_neg]
        intro q
        omega
      rw [this]
    · rw [List.getElem?_eq_none (by simp; omega)]; rfl
