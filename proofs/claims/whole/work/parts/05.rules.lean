/-! ===== numbers ===== -/
theorem zn_lo {a : Int} (h : z_in a) : (Int32.ofInt a).toInt = a := Int32.toInt_ofInt_of_le (by have := h.1; omega) (by have := h.2; omega)
theorem zn_eq {a b : Int} (ha : z_in a) (hb : z_in b) : Int32.ofInt a = Int32.ofInt b ↔ a = b := by
  rw [← Int32.toInt_inj, zn_lo ha, zn_lo hb]
theorem zn_lt {a b : Int} (ha : z_in a) (hb : z_in b) : Int32.ofInt a < Int32.ofInt b ↔ a < b := by
  rw [Int32.lt_iff_toInt_lt, zn_lo ha, zn_lo hb]
theorem zn_le {a b : Int} (ha : z_in a) (hb : z_in b) : Int32.ofInt a ≤ Int32.ofInt b ↔ a ≤ b := by
  rw [Int32.le_iff_toInt_le, zn_lo ha, zn_lo hb]
theorem zn_0 : Int32.ofInt 0 = 0 := rfl
theorem zn_in0 : z_in 0 := by unfold z_in; omega
theorem zn_eq0 {a : Int} (ha : z_in a) : Int32.ofInt a = 0 ↔ a = 0 := zn_eq (b := 0) ha zn_in0
theorem zn_lt0 {a : Int} (ha : z_in a) : Int32.ofInt a < 0 ↔ a < 0 := zn_lt (b := 0) ha zn_in0
theorem zn_le0 {a : Int} (ha : z_in a) : Int32.ofInt a ≤ 0 ↔ a ≤ 0 := zn_le (b := 0) ha zn_in0
theorem zn_ge0 {a : Int} (ha : z_in a) : 0 ≤ Int32.ofInt a ↔ 0 ≤ a := zn_le (a := 0) zn_in0 ha
theorem zn_gt0 {a : Int} (ha : z_in a) : 0 < Int32.ofInt a ↔ 0 < a := zn_lt (a := 0) zn_in0 ha
theorem zn_clamp {a : Int} (ha : z_in a) : (Int32.ofInt a).toNatClampNeg = a.toNat := Int32.toNatClampNeg_ofInt_of_le (by have := ha.1; omega) (by have := ha.2; omega)
theorem zn_ix {a : Int} {n : Nat} (h0 : 0 ≤ a) (h1 : a < n) (ha : z_in a) : vp_in (Int32.ofInt a) n := by
  unfold vp_in
  rw [zn_lt0 ha, zn_clamp ha]
  omega
theorem zn_nat {a : Int} (h0 : 0 ≤ a) (ha : z_in a) : ((Int32.ofInt a).toNatClampNeg : Int) = a := by rw [zn_clamp ha]; omega
theorem zn_div {a b : Int} (h0 : 0 ≤ a) (ha : z_in a) (hb0 : 0 < b) (hb : z_in b) : Int32.ofInt a / Int32.ofInt b = Int32.ofInt (a / b) := by
  obtain ⟨n, rfl⟩ := Int.eq_ofNat_of_zero_le h0
  obtain ⟨d, rfl⟩ := Int.eq_ofNat_of_zero_le (Int.le_of_lt hb0)
  have e := pk_div (a := n) (d := d) (by have := ha.2; omega) (by omega) (by have := hb.2; omega)
  rw [Int32.ofInt_eq_ofNat, Int32.ofInt_eq_ofNat, show ((n : Int) / (d : Int)) = ((n / d : Nat) : Int) by omega, Int32.ofInt_eq_ofNat]
  exact e
theorem zn_rem {a b : Int} (h0 : 0 ≤ a) (ha : z_in a) (hb0 : 0 < b) (hb : z_in b) : Int32.ofInt a - Int32.ofInt a / Int32.ofInt b * Int32.ofInt b = Int32.ofInt (a % b) := by
  obtain ⟨n, rfl⟩ := Int.eq_ofNat_of_zero_le h0
  obtain ⟨d, rfl⟩ := Int.eq_ofNat_of_zero_le (Int.le_of_lt hb0)
  have e := pk_rem (a := n) (d := d) (by have := ha.2; omega) (by omega) (by have := hb.2; omega)
  rw [Int32.ofInt_eq_ofNat, Int32.ofInt_eq_ofNat, show ((n : Int) % (d : Int)) = ((n % d : Nat) : Int) by omega, Int32.ofInt_eq_ofNat]
  exact e
theorem zn_long {a : Int} (h : z_in a) : (Int32.ofInt a).toInt64 = Int64.ofInt a := by
  rw [← Int64.ofInt_int32ToInt, zn_lo h]
theorem zn_lo64 {a : Int} (h : z_in a) : (Int64.ofInt a).toInt = a := Int64.toInt_ofInt_of_le (by have := h.1; omega) (by have := h.2; omega)
theorem zn_eq64 {a b : Int} (ha : z_in a) (hb : z_in b) : Int64.ofInt a = Int64.ofInt b ↔ a = b := by
  rw [← Int64.toInt_inj, zn_lo64 ha, zn_lo64 hb]
theorem zn_lt64 {a b : Int} (ha : z_in a) (hb : z_in b) : Int64.ofInt a < Int64.ofInt b ↔ a < b := by
  rw [Int64.lt_iff_toInt_lt, zn_lo64 ha, zn_lo64 hb]
/-! ===== objects ===== -/
theorem z_ob_cls {C : zC} {kd : Nat × Nat} {f : Int → Int} (h : kd.1 < 10) : z_ob C kd f = .inr (kd.1, (z_tags.getD kd.1 []).zipIdx.map fun q => z_cv C (q.1, f q.2)) := by
  obtain ⟨c, n⟩ := kd
  dsimp only at h
  rcases (show c = 0 ∨ c = 1 ∨ c = 2 ∨ c = 3 ∨ c = 4 ∨ c = 5 ∨ c = 6 ∨ c = 7 ∨ c = 8 ∨ c = 9 by omega) with rfl | rfl | rfl | rfl | rfl | rfl | rfl | rfl | rfl | rfl <;> rfl
theorem z_fs_get {C : zC} {L : List Nat} {f : Int → Int} {k t : Nat} (h : L[k]? = some t) : (L.zipIdx.map fun q => z_cv C (q.1, f q.2))[k]? = some (z_cv C (t, f k)) := by
  rw [List.getElem?_map, List.getElem?_zipIdx, h]
  simp
theorem z_fs_set {C : zC} {L : List Nat} {f : Int → Int} {k t : Nat} {v : Int} (h : L[k]? = some t) : (L.zipIdx.map fun q => z_cv C (q.1, f q.2)).set k (z_cv C (t, v)) = L.zipIdx.map fun q => z_cv C (q.1, (fun j : Int => if j = k then v else f j) q.2) := by
  apply List.ext_getElem?
  intro i
  rw [List.getElem?_set]
  by_cases hi : k = i
  · subst hi
    have hl : k < (L.zipIdx.map fun q => z_cv C (q.1, f q.2)).length := by
      have := (List.getElem?_eq_some_iff.mp h).1
      simpa using this
    rw [if_pos rfl, if_pos hl]
    have := z_fs_get (C := C) (f := fun j : Int => if j = k then v else f j) h
    rw [this]
    simp
  · rw [if_neg hi]
    cases hL : L[i]? with
    | none =>
      rw [List.getElem?_map, List.getElem?_map, List.getElem?_zipIdx, hL]
      rfl
    | some t2 =>
      rw [z_fs_get hL, z_fs_get (f := fun j : Int => if j = k then v else f j) hL]
      have : ¬ ((i : Int) = (k : Int)) := by omega
      simp [this]
theorem z_up_self {M : zM} {z j v : Int} : z_up M z j v z = fun b => if b = j then v else M z b := by
  funext b
  simp [z_up]
/-- a field: the link of its use, its class's kind, its place, its tag -/
def z_Fld (own : String) (idx c k t : Nat) : Prop := c < 10 ∧ ∃ (Cn : String) (T : u_T) (N : Nat), z_cl[c]? = some (Cn, T, N) ∧ k < N ∧ Cond.fieldLink own idx (T k).1 (T k).2.1 (T k).2.2.1 ∈ z_all ∧ (∀ w ∈ u_ws Cn T N, w ∈ z_all) ∧ (z_tags.getD c [])[k]? = some t
/-- .. that may be written: not final, of type ty -/
def z_FldP (own : String) (idx c k t : Nat) (ty : FieldType) : Prop := c < 10 ∧ ∃ (Cn : String) (T : u_T) (N : Nat) (tyf : Nat → FieldType), z_cl[c]? = some (Cn, T, N) ∧ k < N ∧ Cond.fieldLink own idx (T k).1 (T k).2.1 (T k).2.2.1 ∈ z_all ∧ (∀ w ∈ u_ws Cn T N, w ∈ z_all) ∧ (z_tags.getD c [])[k]? = some t ∧
  (T k).2.2.2 = false ∧ tyf k = ty ∧ (∀ k, k < N → parseFieldDescriptor (T k).2.2.1 = some (tyf k)) ∧ (∀ a, a < N → ∀ b, b < N → a ≠ b → (T a).2.1 ≠ (T b).2.1)
/-- .. final, written by its own constructor -/
def z_FldF (own : String) (idx c k t : Nat) (ty : FieldType) : Prop := c < 10 ∧ ∃ (Cn : String) (T : u_T) (N : Nat) (tyf : Nat → FieldType), z_cl[c]? = some (Cn, T, N) ∧ k < N ∧ Cond.fieldLink own idx (T k).1 (T k).2.1 (T k).2.2.1 ∈ z_all ∧ (∀ w ∈ u_ws Cn T N, w ∈ z_all) ∧ (z_tags.getD c [])[k]? = some t ∧
  (T k).2.2.2 = true ∧ (T k).1 = own ∧ tyf k = ty ∧ (∀ k, k < N → parseFieldDescriptor (T k).2.2.1 = some (tyf k)) ∧ (∀ a, a < N → ∀ b, b < N → a ≠ b → (T a).2.1 ≠ (T b).2.1)
theorem z_rf_pos {C : zC} {z : Int} (h : 0 < z) : va_rf (z_rf C z) = .ref (C.1 + (z.toNat - 1)) := by
  unfold z_rf
  rw [if_neg (by omega), if_pos h]
  rfl
theorem z_okM_up {S : zS} {M : zM} {z j v : Int} (h : z_okM S M) (hv : (S.2.2 z).1 ≠ 14 → z_in v) : z_okM S (z_up M z j v) := by
  intro a b h1 h2 hk
  unfold z_up
  split
  · next q => rw [q.1] at hk; exact hv hk
  · exact h a b h1 h2 hk
section ZR
variable {Y : zY} {S : zS} {pc q : Nat} {ls st : List zV} {M : zM} {bc bs : Nat} {Q : zV → zS → zM → Prop}
theorem zr_getf {own : String} {idx c k t : Nat} {z : Int} (F : z_Fld own idx c k t) (hd : decode Y.2.1 pc = .ok (.getfield idx, 3)) (ho : Y.1.cls = own) (hq : pc + 3 = q) (h1 : 0 < z) (h2 : z ≤ S.2.1) (hk : (S.2.2 z).1 = c)
    (kk : z_Ex Y S q ls ((t, M z k) :: st) M bc bs Q) : z_Ex Y S pc ls ((1, z) :: st) M bc bs Q := by
  intro C p l e s m args below meth cc H locs cells slots lsA F0' St
  obtain ⟨hx, hb, hr, hml, hown, hts, hnm, hlk, hex, hst, hbase, hK, hKC, hCX⟩ := id F0'
  obtain ⟨hl, hP, hS, hsz, hokM, hokl, hoks, hc1, hc2⟩ := id St
  obtain ⟨hc10, Cn, T, N, e1, e2, e3, e4, e5⟩ := F
  subst ho; subst hq
  have hg := z_W_get (C := C) (S := S) (M := M) h1 h2
  rw [z_ob_cls (by rw [hk]; exact hc10), hk] at hg
  have hv := z_fs_get (C := C) (f := M z) e5
  show W _ _ _ _ _ _ _ _ _ _ _ _ _ _ _ (F0 m pc lsA (va_rf (z_rf C z) :: st.map (z_cv C)))
  rw [z_rf_pos h1]
  refine va_get hx hb hts e4 hown hK hP (z.toNat - 1) hg e1 k e2 (hts _ e3) (fun _ h => h) hv hd ?_
  refine kk C p l e s m args below meth cc H locs cells slots lsA F0' ⟨hl, hP, hS, hsz, hokM, hokl, ?_, hc1, hc2⟩
  intro v hv'
  rcases List.mem_cons.mp hv' with rfl | h
  · intro _
    exact hokM z k h1 h2 (by rw [hk]; omega)
  · exact hoks v (List.mem_cons_of_mem _ h)
end ZR
theorem z_k9a : (0 : Nat) ≠ 9 := by decide
theorem z_k9b : (1 : Nat) ≠ 9 := by decide
theorem z_ok2 {a b : zV} {st : List zV} (h : ∀ v ∈ a :: b :: st, z_ok v) : z_ok a ∧ z_ok b ∧ ∀ v ∈ st, z_ok v :=
  ⟨h a List.mem_cons_self, h b (List.mem_cons_of_mem _ List.mem_cons_self), fun v q => h v (List.mem_cons_of_mem _ (List.mem_cons_of_mem _ q))⟩
theorem z_ok1 {a : zV} {st : List zV} (h : ∀ v ∈ a :: st, z_ok v) : z_ok a ∧ ∀ v ∈ st, z_ok v :=
  ⟨h a List.mem_cons_self, fun v q => h v (List.mem_cons_of_mem _ q)⟩
theorem z_okc {a : zV} {st : List zV} (ha : z_ok a) (h : ∀ v ∈ st, z_ok v) : ∀ v ∈ a :: st, z_ok v := by
  intro v q
  rcases List.mem_cons.mp q with rfl | q
  · exact ha
  · exact h v q
theorem z_oki {x : Int} (h : z_ok (0, x)) : z_in x := h (Nat.zero_le 2)
theorem z_iok {x : Int} (h : z_in x) : z_ok (0, x) := fun _ => h
theorem z_okl {x : Int} (h : z_ok (2, x)) : z_in x := h (Nat.le_refl 2)
section ZS
variable {Y : zY} {S : zS} {pc q : Nat} {ls st st' : List zV} {M : zM} {bc bs : Nat} {Q : zV → zS → zM → Prop}
/-- a step that changes the stack alone -/
theorem zr_st (hok : (∀ v ∈ ls, z_ok v) → (∀ v ∈ st, z_ok v) → ∀ v ∈ st', z_ok v)
    (step : (∀ v ∈ ls, z_ok v) → (∀ v ∈ st, z_ok v) → ∀ (C : zC) (p : Program) (l : Launch) (e : Env) (s : State) (m : MethodId) (args : Array Value) (below : List Frame) (meth : Method) (c : Code) (H : Heap) (locs : List Loc) (cells slots : Nat) (lsA : Array Slot) (Z : State → Prop), p.tables.exec = Jvm.exec → c.code = Y.2.1 → lv_has lsA Y.2.2.1 (z_lv C ls) →
      W p l e (z_rm Y) s m args below meth c H locs cells slots Z (F0 m q lsA (st'.map (z_cv C))) → W p l e (z_rm Y) s m args below meth c H locs cells slots Z (F0 m pc lsA (st.map (z_cv C))))
    (kk : z_Ex Y S q ls st' M bc bs Q) : z_Ex Y S pc ls st M bc bs Q := by
  intro C p l e s m args below meth cc H locs cells slots lsA F St
  obtain ⟨hl, hP, hS, hsz, hokM, hokl, hoks, hc1, hc2⟩ := id St
  refine step hokl hoks C p l e s m args below meth cc H locs cells slots lsA _ F.1 F.2.1 hl ?_
  exact kk C p l e s m args below meth cc H locs cells slots lsA F ⟨hl, hP, hS, hsz, hokM, hokl, hok hokl hoks, hc1, hc2⟩
theorem zr_iconst {n : Int} (hd : decode Y.2.1 pc = .ok (.iconst n, 1)) (hq : pc + 1 = q) (hn : z_in n) (kk : z_Ex Y S q ls ((0, n) :: st) M bc bs Q) : z_Ex Y S pc ls st M bc bs Q := by
  subst hq
  exact zr_st (fun _ h => z_okc (z_iok hn) h) (fun _ _ C p l e s m args below meth c H locs cells slots lsA Z hx hb hl k => lv_iconst hx hb hd rfl k) kk
theorem zr_bipush {n : Int} (hd : decode Y.2.1 pc = .ok (.bipush n, 2)) (hq : pc + 2 = q) (hn : z_in n) (hv : (Int8.ofInt n).toInt32 = Int32.ofInt n) (kk : z_Ex Y S q ls ((0, n) :: st) M bc bs Q) : z_Ex Y S pc ls st M bc bs Q := by
  subst hq
  exact zr_st (fun _ h => z_okc (z_iok hn) h) (fun _ _ C p l e s m args below meth c H locs cells slots lsA Z hx hb hl k => lv_bipush hx hb hd hv k) kk
theorem zr_sipush {n : Int} (hd : decode Y.2.1 pc = .ok (.sipush n, 3)) (hq : pc + 3 = q) (hn : z_in n) (hv : (Int16.ofInt n).toInt32 = Int32.ofInt n) (kk : z_Ex Y S q ls ((0, n) :: st) M bc bs Q) : z_Ex Y S pc ls st M bc bs Q := by
  subst hq
  exact zr_st (fun _ h => z_okc (z_iok hn) h) (fun _ _ C p l e s m args below meth c H locs cells slots lsA Z hx hb hl k => lv_sipush hx hb hd hv k) kk
theorem zr_lconst {n : Fin 2} {v : Int} (hd : decode Y.2.1 pc = .ok (.lconst n, 1)) (hq : pc + 1 = q) (hn : z_in v) (hv : Int64.ofNat (n : Nat) = Int64.ofInt v) (kk : z_Ex Y S q ls ((2, v) :: st) M bc bs Q) : z_Ex Y S pc ls st M bc bs Q := by
  subst hq
  exact zr_st (fun _ h => z_okc (fun _ => hn) h) (fun _ _ C p l e s m args below meth c H locs cells slots lsA Z hx hb hl k => lv_lconst hx hb hd hv k) kk
theorem zr_iadd {x y : Int} (hd : decode Y.2.1 pc = .ok (.iadd, 1)) (hq : pc + 1 = q) (hn : z_in x → z_in y → z_in (x + y)) (kk : z_Ex Y S q ls ((0, x + y) :: st) M bc bs Q) : z_Ex Y S pc ls ((0, y) :: (0, x) :: st) M bc bs Q := by
  subst hq
  exact zr_st (fun _ h => z_okc (z_iok (hn (z_oki (z_ok2 h).2.1) (z_oki (z_ok2 h).1))) (z_ok2 h).2.2) (fun _ _ C p l e s m args below meth c H locs cells slots lsA Z hx hb hl k => lv_iadd hx hb hd (by rw [← Int32.ofInt_add]; exact k)) kk
theorem zr_isub {x y : Int} (hd : decode Y.2.1 pc = .ok (.isub, 1)) (hq : pc + 1 = q) (hn : z_in x → z_in y → z_in (x - y)) (kk : z_Ex Y S q ls ((0, x - y) :: st) M bc bs Q) : z_Ex Y S pc ls ((0, y) :: (0, x) :: st) M bc bs Q := by
  subst hq
  exact zr_st (fun _ h => z_okc (z_iok (hn (z_oki (z_ok2 h).2.1) (z_oki (z_ok2 h).1))) (z_ok2 h).2.2) (fun _ _ C p l e s m args below meth c H locs cells slots lsA Z hx hb hl k => lv_isub hx hb hd (by rw [← Int32.ofInt_sub]; exact k)) kk
theorem zr_imul {x y : Int} (hd : decode Y.2.1 pc = .ok (.imul, 1)) (hq : pc + 1 = q) (hn : z_in x → z_in y → z_in (x * y)) (kk : z_Ex Y S q ls ((0, x * y) :: st) M bc bs Q) : z_Ex Y S pc ls ((0, y) :: (0, x) :: st) M bc bs Q := by
  subst hq
  exact zr_st (fun _ h => z_okc (z_iok (hn (z_oki (z_ok2 h).2.1) (z_oki (z_ok2 h).1))) (z_ok2 h).2.2) (fun _ _ C p l e s m args below meth c H locs cells slots lsA Z hx hb hl k => lv_imul hx hb hd (by rw [← Int32.ofInt_mul]; exact k)) kk
theorem z_divin {x y : Int} (h0 : 0 ≤ x) (h1 : 0 < y) (hx : z_in x) : z_in (x / y) := by
  have h2 : 0 ≤ x / y := Int.ediv_nonneg h0 (Int.le_of_lt h1)
  have h3 : x / y ≤ x := Int.ediv_le_self y h0
  have := hx.2
  exact ⟨by omega, by omega⟩
theorem z_modin {x y : Int} (h1 : 0 < y) (hy : z_in y) : z_in (x % y) := by
  have h2 : 0 ≤ x % y := Int.emod_nonneg x (by omega)
  have h3 : x % y < y := Int.emod_lt_of_pos x h1
  have := hy.2
  exact ⟨by omega, by omega⟩
theorem zr_idiv {x y : Int} (hd : decode Y.2.1 pc = .ok (.idiv, 1)) (hq : pc + 1 = q) (h0 : 0 ≤ x) (h1 : 0 < y) (kk : z_Ex Y S q ls ((0, x / y) :: st) M bc bs Q) : z_Ex Y S pc ls ((0, y) :: (0, x) :: st) M bc bs Q := by
  subst hq
  exact zr_st (fun _ h => z_okc (z_iok (z_divin h0 h1 (z_oki (z_ok2 h).2.1))) (z_ok2 h).2.2) (fun _ h C p l e s m args below meth c H locs cells slots lsA Z hx hb hl k => lv_idiv hx hb hd (by have hy := z_oki (z_ok2 h).1; rw [zn_eq0 hy]; omega) (by rw [zn_div h0 (z_oki (z_ok2 h).2.1) h1 (z_oki (z_ok2 h).1)]; exact k)) kk
theorem zr_irem {x y : Int} (hd : decode Y.2.1 pc = .ok (.irem, 1)) (hq : pc + 1 = q) (h0 : 0 ≤ x) (h1 : 0 < y) (kk : z_Ex Y S q ls ((0, x % y) :: st) M bc bs Q) : z_Ex Y S pc ls ((0, y) :: (0, x) :: st) M bc bs Q := by
  subst hq
  exact zr_st (fun _ h => z_okc (z_iok (z_modin h1 (z_oki (z_ok2 h).1))) (z_ok2 h).2.2) (fun _ h C p l e s m args below meth c H locs cells slots lsA Z hx hb hl k => lv_irem hx hb hd (by have hy := z_oki (z_ok2 h).1; rw [zn_eq0 hy]; omega) (by rw [zn_rem h0 (z_oki (z_ok2 h).2.1) h1 (z_oki (z_ok2 h).1)]; exact k)) kk
theorem zr_i2l {x : Int} (hd : decode Y.2.1 pc = .ok (.i2l, 1)) (hq : pc + 1 = q) (kk : z_Ex Y S q ls ((2, x) :: st) M bc bs Q) : z_Ex Y S pc ls ((0, x) :: st) M bc bs Q := by
  subst hq
  exact zr_st (fun _ h => z_okc (fun _ => z_oki (z_ok1 h).1) (z_ok1 h).2) (fun _ h C p l e s m args below meth c H locs cells slots lsA Z hx hb hl k => lv_i2l hx hb hd (zn_long (z_oki (z_ok1 h).1)) k) kk
theorem zr_lcmp {x y : Int} (hd : decode Y.2.1 pc = .ok (.lcmp, 1)) (hq : pc + 1 = q) (kk : z_Ex Y S q ls ((0, if y < x then 1 else if x = y then 0 else -1) :: st) M bc bs Q) : z_Ex Y S pc ls ((2, y) :: (2, x) :: st) M bc bs Q := by
  subst hq
  refine zr_st (fun _ h => z_okc (z_iok ?_) (z_ok2 h).2.2) (fun _ h C p l e s m args below meth c H locs cells slots lsA Z hx hb hl k => W.lcmp hx hb hd ?_) kk
  · unfold z_in; split
    · omega
    · split <;> omega
  · have hX := z_okl (z_ok2 h).2.1
    have hY := z_okl (z_ok2 h).1
    have e : lg_cmp (Int64.ofInt x) (Int64.ofInt y) = Int32.ofInt (if y < x then 1 else if x = y then 0 else -1) := by
      unfold lg_cmp
      simp only [gt_iff_lt, zn_lt64 hY hX, zn_eq64 hX hY]
      split
      · rfl
      · split <;> rfl
    rw [e]; exact k
theorem zr_dup {v : zV} (hd : decode Y.2.1 pc = .ok (.dup, 1)) (hq : pc + 1 = q) (hv : v.1 = 0 ∨ v.1 = 1) (kk : z_Ex Y S q ls (v :: v :: st) M bc bs Q) : z_Ex Y S pc ls (v :: st) M bc bs Q := by
  subst hq
  refine zr_st (fun _ h => z_okc (z_ok1 h).1 h) (fun _ h C p l e s m args below meth c H locs cells slots lsA Z hx hb hl k => lv_dup hx hb hd ?_ k) kk
  obtain ⟨a, b⟩ := v
  rcases hv with h | h <;> (dsimp only at h; subst h)
  · rfl
  · show (va_rf (z_rf C b)).category = 1
    cases z_rf C b <;> rfl
theorem zr_pop {v : zV} (hd : decode Y.2.1 pc = .ok (.pop, 1)) (hq : pc + 1 = q) (hv : v.1 = 0 ∨ v.1 = 1) (kk : z_Ex Y S q ls st M bc bs Q) : z_Ex Y S pc ls (v :: st) M bc bs Q := by
  subst hq
  refine zr_st (fun _ h => (z_ok1 h).2) (fun _ h C p l e s m args below meth c H locs cells slots lsA Z hx hb hl k => lv_pop hx hb hd ?_ k) kk
  obtain ⟨a, b⟩ := v
  rcases hv with h | h <;> (dsimp only at h; subst h)
  · rfl
  · show (va_rf (z_rf C b)).category = 1
    cases z_rf C b <;> rfl
theorem zr_dup2 {v w : zV} (hd : decode Y.2.1 pc = .ok (.dup2, 1)) (hq : pc + 1 = q) (hv : v.1 = 0 ∨ v.1 = 1) (hw : w.1 = 0 ∨ w.1 = 1) (kk : z_Ex Y S q ls (v :: w :: v :: w :: st) M bc bs Q) : z_Ex Y S pc ls (v :: w :: st) M bc bs Q := by
  subst hq
  refine zr_st (fun _ h => z_okc (z_ok2 h).1 (z_okc (z_ok2 h).2.1 h)) (fun _ h C p l e s m args below meth c H locs cells slots lsA Z hx hb hl k => lv_dup2_11 hx hb hd ?_ ?_ k) kk
  · obtain ⟨a, b⟩ := v
    rcases hv with h | h <;> (dsimp only at h; subst h)
    · rfl
    · show (va_rf (z_rf C b)).category = 1
      cases z_rf C b <;> rfl
  · obtain ⟨a, b⟩ := w
    rcases hw with h | h <;> (dsimp only at h; subst h)
    · rfl
    · show (va_rf (z_rf C b)).category = 1
      cases z_rf C b <;> rfl
theorem zr_goto {off : Int} (hd : decode Y.2.1 pc = .ok (.goto off, 3)) (hq : (pc : Int) + off = (q : Int)) (kk : z_Ex Y S q ls st M bc bs Q) : z_Ex Y S pc ls st M bc bs Q :=
  zr_st (fun _ h => h) (fun _ h C p l e s m args below meth c H locs cells slots lsA Z hx hb hl k => lv_goto hx hb hd hq k) kk
/-- a branch -/
theorem zr_br {q2 : Nat} {c : Prop} (hok : (∀ v ∈ st, z_ok v) → ∀ v ∈ st', z_ok v)
    (step : (∀ v ∈ st, z_ok v) → ∀ (C : zC) (p : Program) (l : Launch) (e : Env) (s : State) (m : MethodId) (args : Array Value) (below : List Frame) (meth : Method) (cc : Code) (H : Heap) (locs : List Loc) (cells slots : Nat) (lsA : Array Slot) (Z : State → Prop), p.tables.exec = Jvm.exec → cc.code = Y.2.1 →
      (c → W p l e (z_rm Y) s m args below meth cc H locs cells slots Z (F0 m q lsA (st'.map (z_cv C)))) → (¬ c → W p l e (z_rm Y) s m args below meth cc H locs cells slots Z (F0 m q2 lsA (st'.map (z_cv C)))) → W p l e (z_rm Y) s m args below meth cc H locs cells slots Z (F0 m pc lsA (st.map (z_cv C))))
    (kt : c → z_Ex Y S q ls st' M bc bs Q) (kf : ¬ c → z_Ex Y S q2 ls st' M bc bs Q) : z_Ex Y S pc ls st M bc bs Q := by
  intro C p l e s m args below meth cc H locs cells slots lsA F St
  obtain ⟨hl, hP, hS, hsz, hokM, hokl, hoks, hc1, hc2⟩ := id St
  refine step hoks C p l e s m args below meth cc H locs cells slots lsA _ F.1 F.2.1 ?_ ?_
  · intro h
    exact kt h C p l e s m args below meth cc H locs cells slots lsA F ⟨hl, hP, hS, hsz, hokM, hokl, hok hoks, hc1, hc2⟩
  · intro h
    exact kf h C p l e s m args below meth cc H locs cells slots lsA F ⟨hl, hP, hS, hsz, hokM, hokl, hok hoks, hc1, hc2⟩
theorem zr_if_eq {x : Int} {off : Int} {q2 : Nat} (hd : decode Y.2.1 pc = .ok (.ifCond .eq off, 3)) (hq : (pc : Int) + off = (q : Int)) (hq2 : pc + 3 = q2) (kt : x = 0 → z_Ex Y S q ls st M bc bs Q) (kf : ¬ (x = 0) → z_Ex Y S q2 ls st M bc bs Q) : z_Ex Y S pc ls ((0, x) :: st) M bc bs Q := by
  subst hq2
  refine zr_br (c := x = 0) (fun h => (z_ok1 h).2) (fun h C p l e s m args below meth cc H locs cells slots lsA Z hx hb k1 k2 => ?_) kt kf
  have hX := z_oki (z_ok1 h).1
  exact lv_if_eq hx hb hd hq (fun c => k1 (((zn_eq0 hX).mp c))) (fun c => k2 ((fun e => c ((zn_eq0 hX).mpr e))))
theorem zr_icmp_eq {x y : Int} {off : Int} {q2 : Nat} (hd : decode Y.2.1 pc = .ok (.if_icmp .eq off, 3)) (hq : (pc : Int) + off = (q : Int)) (hq2 : pc + 3 = q2) (kt : x = y → z_Ex Y S q ls st M bc bs Q) (kf : ¬ (x = y) → z_Ex Y S q2 ls st M bc bs Q) : z_Ex Y S pc ls ((0, y) :: (0, x) :: st) M bc bs Q := by
  subst hq2
  refine zr_br (c := x = y) (fun h => (z_ok2 h).2.2) (fun h C p l e s m args below meth cc H locs cells slots lsA Z hx hb k1 k2 => ?_) kt kf
  have hX := z_oki (z_ok2 h).2.1
  have hY := z_oki (z_ok2 h).1
  exact lv_icmp_eq hx hb hd hq (fun c => k1 ((zn_eq hX hY).mp c)) (fun c => k2 (fun e => c ((zn_eq hX hY).mpr e)))
theorem zr_if_ne {x : Int} {off : Int} {q2 : Nat} (hd : decode Y.2.1 pc = .ok (.ifCond .ne off, 3)) (hq : (pc : Int) + off = (q : Int)) (hq2 : pc + 3 = q2) (kt : x ≠ 0 → z_Ex Y S q ls st M bc bs Q) (kf : ¬ (x ≠ 0) → z_Ex Y S q2 ls st M bc bs Q) : z_Ex Y S pc ls ((0, x) :: st) M bc bs Q := by
  subst hq2
  refine zr_br (c := x ≠ 0) (fun h => (z_ok1 h).2) (fun h C p l e s m args below meth cc H locs cells slots lsA Z hx hb k1 k2 => ?_) kt kf
  have hX := z_oki (z_ok1 h).1
  exact lv_if_ne hx hb hd hq (fun c => k1 ((fun e => c ((zn_eq0 hX).mpr e)))) (fun c => k2 ((fun e => e ((zn_eq0 hX).mp c))))
theorem zr_icmp_ne {x y : Int} {off : Int} {q2 : Nat} (hd : decode Y.2.1 pc = .ok (.if_icmp .ne off, 3)) (hq : (pc : Int) + off = (q : Int)) (hq2 : pc + 3 = q2) (kt : x ≠ y → z_Ex Y S q ls st M bc bs Q) (kf : ¬ (x ≠ y) → z_Ex Y S q2 ls st M bc bs Q) : z_Ex Y S pc ls ((0, y) :: (0, x) :: st) M bc bs Q := by
  subst hq2
  refine zr_br (c := x ≠ y) (fun h => (z_ok2 h).2.2) (fun h C p l e s m args below meth cc H locs cells slots lsA Z hx hb k1 k2 => ?_) kt kf
  have hX := z_oki (z_ok2 h).2.1
  have hY := z_oki (z_ok2 h).1
  exact lv_icmp_ne hx hb hd hq (fun c => k1 (fun e => c ((zn_eq hX hY).mpr e))) (fun c => k2 (fun e => e ((zn_eq hX hY).mp c)))
theorem zr_if_lt {x : Int} {off : Int} {q2 : Nat} (hd : decode Y.2.1 pc = .ok (.ifCond .lt off, 3)) (hq : (pc : Int) + off = (q : Int)) (hq2 : pc + 3 = q2) (kt : x < 0 → z_Ex Y S q ls st M bc bs Q) (kf : ¬ (x < 0) → z_Ex Y S q2 ls st M bc bs Q) : z_Ex Y S pc ls ((0, x) :: st) M bc bs Q := by
  subst hq2
  refine zr_br (c := x < 0) (fun h => (z_ok1 h).2) (fun h C p l e s m args below meth cc H locs cells slots lsA Z hx hb k1 k2 => ?_) kt kf
  have hX := z_oki (z_ok1 h).1
  exact lv_if_lt hx hb hd hq (fun c => k1 (((zn_lt0 hX).mp c))) (fun c => k2 ((fun e => c ((zn_lt0 hX).mpr e))))
theorem zr_icmp_lt {x y : Int} {off : Int} {q2 : Nat} (hd : decode Y.2.1 pc = .ok (.if_icmp .lt off, 3)) (hq : (pc : Int) + off = (q : Int)) (hq2 : pc + 3 = q2) (kt : x < y → z_Ex Y S q ls st M bc bs Q) (kf : ¬ (x < y) → z_Ex Y S q2 ls st M bc bs Q) : z_Ex Y S pc ls ((0, y) :: (0, x) :: st) M bc bs Q := by
  subst hq2
  refine zr_br (c := x < y) (fun h => (z_ok2 h).2.2) (fun h C p l e s m args below meth cc H locs cells slots lsA Z hx hb k1 k2 => ?_) kt kf
  have hX := z_oki (z_ok2 h).2.1
  have hY := z_oki (z_ok2 h).1
  exact lv_icmp_lt hx hb hd hq (fun c => k1 ((zn_lt hX hY).mp c)) (fun c => k2 (fun e => c ((zn_lt hX hY).mpr e)))
theorem zr_if_ge {x : Int} {off : Int} {q2 : Nat} (hd : decode Y.2.1 pc = .ok (.ifCond .ge off, 3)) (hq : (pc : Int) + off = (q : Int)) (hq2 : pc + 3 = q2) (kt : 0 ≤ x → z_Ex Y S q ls st M bc bs Q) (kf : ¬ (0 ≤ x) → z_Ex Y S q2 ls st M bc bs Q) : z_Ex Y S pc ls ((0, x) :: st) M bc bs Q := by
  subst hq2
  refine zr_br (c := 0 ≤ x) (fun h => (z_ok1 h).2) (fun h C p l e s m args below meth cc H locs cells slots lsA Z hx hb k1 k2 => ?_) kt kf
  have hX := z_oki (z_ok1 h).1
  exact lv_if_ge hx hb hd hq (fun c => k1 (((zn_ge0 hX).mp c))) (fun c => k2 ((fun e => c ((zn_ge0 hX).mpr e))))
theorem zr_icmp_ge {x y : Int} {off : Int} {q2 : Nat} (hd : decode Y.2.1 pc = .ok (.if_icmp .ge off, 3)) (hq : (pc : Int) + off = (q : Int)) (hq2 : pc + 3 = q2) (kt : y ≤ x → z_Ex Y S q ls st M bc bs Q) (kf : ¬ (y ≤ x) → z_Ex Y S q2 ls st M bc bs Q) : z_Ex Y S pc ls ((0, y) :: (0, x) :: st) M bc bs Q := by
  subst hq2
  refine zr_br (c := y ≤ x) (fun h => (z_ok2 h).2.2) (fun h C p l e s m args below meth cc H locs cells slots lsA Z hx hb k1 k2 => ?_) kt kf
  have hX := z_oki (z_ok2 h).2.1
  have hY := z_oki (z_ok2 h).1
  exact lv_icmp_ge hx hb hd hq (fun c => k1 ((zn_le hY hX).mp c)) (fun c => k2 (fun e => c ((zn_le hY hX).mpr e)))
theorem zr_if_gt {x : Int} {off : Int} {q2 : Nat} (hd : decode Y.2.1 pc = .ok (.ifCond .gt off, 3)) (hq : (pc : Int) + off = (q : Int)) (hq2 : pc + 3 = q2) (kt : 0 < x → z_Ex Y S q ls st M bc bs Q) (kf : ¬ (0 < x) → z_Ex Y S q2 ls st M bc bs Q) : z_Ex Y S pc ls ((0, x) :: st) M bc bs Q := by
  subst hq2
  refine zr_br (c := 0 < x) (fun h => (z_ok1 h).2) (fun h C p l e s m args below meth cc H locs cells slots lsA Z hx hb k1 k2 => ?_) kt kf
  have hX := z_oki (z_ok1 h).1
  exact lv_if_gt hx hb hd hq (fun c => k1 (((zn_gt0 hX).mp c))) (fun c => k2 ((fun e => c ((zn_gt0 hX).mpr e))))
theorem zr_icmp_gt {x y : Int} {off : Int} {q2 : Nat} (hd : decode Y.2.1 pc = .ok (.if_icmp .gt off, 3)) (hq : (pc : Int) + off = (q : Int)) (hq2 : pc + 3 = q2) (kt : y < x → z_Ex Y S q ls st M bc bs Q) (kf : ¬ (y < x) → z_Ex Y S q2 ls st M bc bs Q) : z_Ex Y S pc ls ((0, y) :: (0, x) :: st) M bc bs Q := by
  subst hq2
  refine zr_br (c := y < x) (fun h => (z_ok2 h).2.2) (fun h C p l e s m args below meth cc H locs cells slots lsA Z hx hb k1 k2 => ?_) kt kf
  have hX := z_oki (z_ok2 h).2.1
  have hY := z_oki (z_ok2 h).1
  exact lv_icmp_gt hx hb hd hq (fun c => k1 ((zn_lt hY hX).mp c)) (fun c => k2 (fun e => c ((zn_lt hY hX).mpr e)))
theorem zr_if_le {x : Int} {off : Int} {q2 : Nat} (hd : decode Y.2.1 pc = .ok (.ifCond .le off, 3)) (hq : (pc : Int) + off = (q : Int)) (hq2 : pc + 3 = q2) (kt : x ≤ 0 → z_Ex Y S q ls st M bc bs Q) (kf : ¬ (x ≤ 0) → z_Ex Y S q2 ls st M bc bs Q) : z_Ex Y S pc ls ((0, x) :: st) M bc bs Q := by
  subst hq2
  refine zr_br (c := x ≤ 0) (fun h => (z_ok1 h).2) (fun h C p l e s m args below meth cc H locs cells slots lsA Z hx hb k1 k2 => ?_) kt kf
  have hX := z_oki (z_ok1 h).1
  exact lv_if_le hx hb hd hq (fun c => k1 (((zn_le0 hX).mp c))) (fun c => k2 ((fun e => c ((zn_le0 hX).mpr e))))
theorem zr_icmp_le {x y : Int} {off : Int} {q2 : Nat} (hd : decode Y.2.1 pc = .ok (.if_icmp .le off, 3)) (hq : (pc : Int) + off = (q : Int)) (hq2 : pc + 3 = q2) (kt : x ≤ y → z_Ex Y S q ls st M bc bs Q) (kf : ¬ (x ≤ y) → z_Ex Y S q2 ls st M bc bs Q) : z_Ex Y S pc ls ((0, y) :: (0, x) :: st) M bc bs Q := by
  subst hq2
  refine zr_br (c := x ≤ y) (fun h => (z_ok2 h).2.2) (fun h C p l e s m args below meth cc H locs cells slots lsA Z hx hb k1 k2 => ?_) kt kf
  have hX := z_oki (z_ok2 h).2.1
  have hY := z_oki (z_ok2 h).1
  exact lv_icmp_le hx hb hd hq (fun c => k1 ((zn_le hX hY).mp c)) (fun c => k2 (fun e => c ((zn_le hX hY).mpr e)))
theorem z_lv_mem {C : zC} {ls : List zV} {i : Nat} {v : zV} (h : ls[i]? = some v) (h9 : v.1 ≠ 9) : (i, z_cv C v) ∈ z_lv C ls := by
  unfold z_lv
  refine List.mem_filterMap.mpr ⟨(v, i), ?_, by simp [h9]⟩
  refine List.mem_of_getElem? (i := i) ?_
  rw [List.getElem?_zipIdx, h]
  simp
theorem z_lv_of {C : zC} {ls : List zV} {q : Nat × Value} (h : q ∈ z_lv C ls) : ∃ v, ls[q.1]? = some v ∧ v.1 ≠ 9 ∧ q.2 = z_cv C v := by
  unfold z_lv at h
  obtain ⟨a, h1, h2⟩ := List.mem_filterMap.mp h
  obtain ⟨i, hi⟩ := List.getElem?_of_mem h1
  rw [List.getElem?_zipIdx] at hi
  cases hl : ls[i]? with
  | none => rw [hl] at hi; cases hi
  | some w =>
    rw [hl] at hi
    simp at hi
    subst hi
    dsimp only at h2
    split at h2
    · cases h2
    · next n => cases h2; exact ⟨w, by simpa using hl, n, rfl⟩
theorem z_lv_at {C : zC} {ls : List zV} {lsA : Array Slot} {n i : Nat} {v : zV} (hl : lv_has lsA n (z_lv C ls)) (h : ls[i]? = some v) (h9 : v.1 ≠ 9) : lsA[i]? = some (.val (z_cv C v)) := hl.2.2 (i, z_cv C v) (z_lv_mem h h9)
theorem zr_iload {i n : Nat} {x : Int} (hi : ls[i]? = some (0, x)) (hd : decode Y.2.1 pc = .ok (.iload i, 2)) (hq : pc + 2 = q) (kk : z_Ex Y S q ls ((0, x) :: st) M bc bs Q) : z_Ex Y S pc ls st M bc bs Q := by
  subst hq
  exact zr_st (fun hl h => z_okc (hl _ (List.mem_of_getElem? hi)) h) (fun _ _ C p l e s m args below meth c H locs cells slots lsA Z hx hb hl k => lv_iload hx hb hd (z_lv_at hl hi z_k9a) k) kk
theorem zr_iloadn {k : Fin 4} {x : Int} (hi : ls[(k : Nat)]? = some (0, x)) (hd : decode Y.2.1 pc = .ok (.iload_n k, 1)) (hq : pc + 1 = q) (kk : z_Ex Y S q ls ((0, x) :: st) M bc bs Q) : z_Ex Y S pc ls st M bc bs Q := by
  subst hq
  exact zr_st (fun hl h => z_okc (hl _ (List.mem_of_getElem? hi)) h) (fun _ _ C p l e s m args below meth c H locs cells slots lsA Z hx hb hl k => lv_iload_n hx hb hd rfl (z_lv_at hl hi z_k9a) k) kk
theorem lv_aloadQ {p : Program} {l : Launch} {e : Env} {R : Room} {s : State} {m : MethodId} {args : Array Value} {below : List Frame} {meth : Method} {c : Code} {H : Heap} {locs : List Loc} {cells slots : Nat} {Z : State → Prop} {cc : ByteArray} {lsA : Array Slot} {rest : List Value} (hx : p.tables.exec = Jvm.exec) (hb : c.code = cc) {i : Nat} {r : Option Nat} (hd : decode cc pc = .ok (.aload i, 2)) (hl : lsA[i]? = some (.val (va_rf r)))
    (k : W p l e R s m args below meth c H locs cells slots Z (F0 m (pc + 2) lsA (va_rf r :: rest))) : W p l e R s m args below meth c H locs cells slots Z (F0 m pc lsA rest) := by
  cases r with
  | none => exact lv_aloadN hx hb hd hl k
  | some a => exact lv_aload hx hb hd hl k
theorem lv_aloadQn {p : Program} {l : Launch} {e : Env} {R : Room} {s : State} {m : MethodId} {args : Array Value} {below : List Frame} {meth : Method} {c : Code} {H : Heap} {locs : List Loc} {cells slots : Nat} {Z : State → Prop} {cc : ByteArray} {lsA : Array Slot} {rest : List Value} (hx : p.tables.exec = Jvm.exec) (hb : c.code = cc) {k : Fin 4} {r : Option Nat} (hd : decode cc pc = .ok (.aload_n k, 1)) (hl : lsA[(k : Nat)]? = some (.val (va_rf r)))
    (kk : W p l e R s m args below meth c H locs cells slots Z (F0 m (pc + 1) lsA (va_rf r :: rest))) : W p l e R s m args below meth c H locs cells slots Z (F0 m pc lsA rest) := by
  cases r with
  | none => exact lv_aload_nN hx hb hd rfl hl kk
  | some a => exact lv_aload_n hx hb hd rfl hl kk
theorem zr_aload {i : Nat} {x : Int} (hi : ls[i]? = some (1, x)) (hd : decode Y.2.1 pc = .ok (.aload i, 2)) (hq : pc + 2 = q) (kk : z_Ex Y S q ls ((1, x) :: st) M bc bs Q) : z_Ex Y S pc ls st M bc bs Q := by
  subst hq
  exact zr_st (fun hl h => z_okc (hl _ (List.mem_of_getElem? hi)) h) (fun _ _ C p l e s m args below meth c H locs cells slots lsA Z hx hb hl k => lv_aloadQ hx hb hd (r := z_rf C x) (z_lv_at hl hi z_k9b) k) kk
theorem zr_aloadn {k : Fin 4} {x : Int} (hi : ls[(k : Nat)]? = some (1, x)) (hd : decode Y.2.1 pc = .ok (.aload_n k, 1)) (hq : pc + 1 = q) (kk : z_Ex Y S q ls ((1, x) :: st) M bc bs Q) : z_Ex Y S pc ls st M bc bs Q := by
  subst hq
  exact zr_st (fun hl h => z_okc (hl _ (List.mem_of_getElem? hi)) h) (fun _ _ C p l e s m args below meth c H locs cells slots lsA Z hx hb hl k => lv_aloadQn hx hb hd (r := z_rf C x) (z_lv_at hl hi z_k9b) k) kk
end ZS
def z_c1 (ls : List zV) : Nat → Bool
  | 0 => true
  | j + 1 => match ls[j]? with
    | some w => w.1 == 0 || w.1 == 1 || w.1 == 3 || w.1 == 9
    | none => true
theorem z_has_sub {A : Array Slot} {n : Nat} {L L' : List (Nat × Value)} (h : lv_has A n L) (hs : ∀ q ∈ L', q ∈ L) : lv_has A n L' := ⟨h.1, h.2.1, fun q hq => h.2.2 q (hs q hq)⟩
theorem z_rf_cat (C : zC) (b : Int) : (va_rf (z_rf C b)).category = 1 := by cases z_rf C b <;> rfl
theorem z_cat1 {C : zC} {w : zV} (h : (w.1 == 0 || w.1 == 1 || w.1 == 3 || w.1 == 9) = true) (h9 : w.1 ≠ 9) : (z_cv C w).category = 1 := by
  obtain ⟨a, b⟩ := w
  simp only [Bool.or_eq_true, beq_iff_eq] at h
  rcases h with ((h | h) | h) | h
  · subst h; rfl
  · subst h; exact z_rf_cat C b
  · subst h; rfl
  · exact absurd h h9
theorem z_lv_set {C : zC} {ls : List zV} {i : Nat} {v : zV} (hc : z_c1 ls i = true) : ∀ q ∈ z_lv C (ls.set i v), q ∈ (i, z_cv C v) :: (z_lv C ls).filter (fun q => !(q.1 == i) && !(q.1 + 1 == i && q.2.category == 2)) := by
  intro q hq
  obtain ⟨w, h1, h2, h3⟩ := z_lv_of hq
  by_cases hi : i = q.1
  · subst hi
    have hl : q.1 < ls.length := by
      have := (List.getElem?_eq_some_iff.mp h1).1
      simpa using this
    rw [List.getElem?_set_self hl] at h1
    cases h1
    have : q = (q.1, z_cv C v) := by rw [← h3]
    rw [← this]
    exact List.mem_cons_self
  · rw [List.getElem?_set_ne hi] at h1
    refine List.mem_cons_of_mem _ (List.mem_filter.mpr ⟨?_, ?_⟩)
    · have := z_lv_mem (C := C) h1 h2
      rw [← h3] at this
      exact this
    · have e1 : (q.1 == i) = false := by simpa using fun e => hi e.symm
      rw [e1]
      by_cases hp : q.1 + 1 = i
      · subst hp
        have hc2 : (match ls[q.1]? with | some w => w.1 == 0 || w.1 == 1 || w.1 == 3 || w.1 == 9 | none => true) = true := hc
        rw [h1] at hc2
        have e2 : (q.2.category == 2) = false := by rw [h3, z_cat1 hc2 h2]; rfl
        rw [e2]; simp
      · have e3 : (q.1 + 1 == i) = false := by simpa using hp
        rw [e3]; simp
section ZT
variable {Y : zY} {S : zS} {pc q : Nat} {ls st st' : List zV} {M : zM} {bc bs : Nat} {Q : zV → zS → zM → Prop}
/-- a store into a local -/
theorem zr_sto {i : Nat} {v : zV} (hv : (∀ v ∈ ls, z_ok v) → (∀ v ∈ st, z_ok v) → z_ok v) (hst : (∀ v ∈ st, z_ok v) → ∀ v ∈ st', z_ok v) (hc : z_c1 ls i = true)
    (step : ∀ (C : zC) (p : Program) (l : Launch) (e : Env) (s : State) (m : MethodId) (args : Array Value) (below : List Frame) (meth : Method) (c : Code) (H : Heap) (locs : List Loc) (cells slots : Nat) (lsA : Array Slot) (Z : State → Prop), p.tables.exec = Jvm.exec → c.code = Y.2.1 → lv_has lsA Y.2.2.1 (z_lv C ls) →
      (∀ lsB : Array Slot, lv_has lsB Y.2.2.1 ((i, z_cv C v) :: (z_lv C ls).filter (fun q => !(q.1 == i) && !(q.1 + 1 == i && q.2.category == 2))) → W p l e (z_rm Y) s m args below meth c H locs cells slots Z (F0 m q lsB (st'.map (z_cv C)))) → W p l e (z_rm Y) s m args below meth c H locs cells slots Z (F0 m pc lsA (st.map (z_cv C))))
    (kk : z_Ex Y S q (ls.set i v) st' M bc bs Q) : z_Ex Y S pc ls st M bc bs Q := by
  intro C p l e s m args below meth cc H locs cells slots lsA F St
  obtain ⟨hl, hP, hS, hsz, hokM, hokl, hoks, hc1, hc2⟩ := id St
  refine step C p l e s m args below meth cc H locs cells slots lsA _ F.1 F.2.1 hl (fun lsB hB => ?_)
  refine kk C p l e s m args below meth cc H locs cells slots lsB F ⟨z_has_sub hB (z_lv_set hc), hP, hS, hsz, hokM, ?_, hst hoks, hc1, hc2⟩
  intro w hw
  rcases List.mem_or_eq_of_mem_set hw with h | h
  · exact hokl w h
  · rw [h]; exact hv hokl hoks
theorem lv_astoreQ {p : Program} {l : Launch} {e : Env} {R : Room} {s : State} {m : MethodId} {args : Array Value} {below : List Frame} {meth : Method} {c : Code} {H : Heap} {locs : List Loc} {cells slots : Nat} {Z : State → Prop} {cc : ByteArray} {lsA : Array Slot} {rest : List Value} (hx : p.tables.exec = Jvm.exec) (hb : c.code = cc) {i nL : Nat} {r : Option Nat} {lv : List (Nat × Value)} (hd : decode cc pc = .ok (.astore i, 2)) (h : lv_has lsA nL lv) (hn : i < nL)
    (kk : ∀ lsB : Array Slot, lv_has lsB nL ((i, va_rf r) :: lv.filter (fun q => !(q.1 == i) && !(q.1 + 1 == i && q.2.category == 2))) → W p l e R s m args below meth c H locs cells slots Z (F0 m (pc + 2) lsB rest)) : W p l e R s m args below meth c H locs cells slots Z (F0 m pc lsA (va_rf r :: rest)) := by
  cases r with
  | none => exact lv_astoreN hx hb hd h hn rfl kk
  | some a => exact lv_astore hx hb hd h hn rfl kk
theorem lv_astoreQn {p : Program} {l : Launch} {e : Env} {R : Room} {s : State} {m : MethodId} {args : Array Value} {below : List Frame} {meth : Method} {c : Code} {H : Heap} {locs : List Loc} {cells slots : Nat} {Z : State → Prop} {cc : ByteArray} {lsA : Array Slot} {rest : List Value} (hx : p.tables.exec = Jvm.exec) (hb : c.code = cc) {k : Fin 4} {nL : Nat} {r : Option Nat} {lv : List (Nat × Value)} (hd : decode cc pc = .ok (.astore_n k, 1)) (h : lv_has lsA nL lv) (hn : (k : Nat) < nL)
    (kk : ∀ lsB : Array Slot, lv_has lsB nL (((k : Nat), va_rf r) :: lv.filter (fun q => !(q.1 == (k : Nat)) && !(q.1 + 1 == (k : Nat) && q.2.category == 2))) → W p l e R s m args below meth c H locs cells slots Z (F0 m (pc + 1) lsB rest)) : W p l e R s m args below meth c H locs cells slots Z (F0 m pc lsA (va_rf r :: rest)) := by
  cases r with
  | none => exact lv_astore_nN hx hb hd rfl h hn rfl kk
  | some a => exact lv_astore_n hx hb hd rfl h hn rfl kk
theorem zr_istore {i : Nat} {x : Int} (hd : decode Y.2.1 pc = .ok (.istore i, 2)) (hq : pc + 2 = q) (hn : i < Y.2.2.1) (hc : z_c1 ls i = true) (kk : z_Ex Y S q (ls.set i (0, x)) st M bc bs Q) : z_Ex Y S pc ls ((0, x) :: st) M bc bs Q := by
  subst hq
  exact zr_sto (fun _ h => (z_ok1 h).1) (fun h => (z_ok1 h).2) hc (fun C p l e s m args below meth c H locs cells slots lsA Z hx hb hl k => lv_istore hx hb hd hl hn rfl k) kk
theorem zr_istoren {k : Fin 4} {x : Int} (hd : decode Y.2.1 pc = .ok (.istore_n k, 1)) (hq : pc + 1 = q) (hn : (k : Nat) < Y.2.2.1) (hc : z_c1 ls k = true) (kk : z_Ex Y S q (ls.set k (0, x)) st M bc bs Q) : z_Ex Y S pc ls ((0, x) :: st) M bc bs Q := by
  subst hq
  exact zr_sto (fun _ h => (z_ok1 h).1) (fun h => (z_ok1 h).2) hc (fun C p l e s m args below meth c H locs cells slots lsA Z hx hb hl k => lv_istore_n hx hb hd rfl hl hn rfl k) kk
theorem zr_astore {i : Nat} {x : Int} (hd : decode Y.2.1 pc = .ok (.astore i, 2)) (hq : pc + 2 = q) (hn : i < Y.2.2.1) (hc : z_c1 ls i = true) (kk : z_Ex Y S q (ls.set i (1, x)) st M bc bs Q) : z_Ex Y S pc ls ((1, x) :: st) M bc bs Q := by
  subst hq
  exact zr_sto (fun _ h => (z_ok1 h).1) (fun h => (z_ok1 h).2) hc (fun C p l e s m args below meth c H locs cells slots lsA Z hx hb hl k => lv_astoreQ (r := z_rf C x) hx hb hd hl hn k) kk
theorem zr_astoren {k : Fin 4} {x : Int} (hd : decode Y.2.1 pc = .ok (.astore_n k, 1)) (hq : pc + 1 = q) (hn : (k : Nat) < Y.2.2.1) (hc : z_c1 ls k = true) (kk : z_Ex Y S q (ls.set k (1, x)) st M bc bs Q) : z_Ex Y S pc ls ((1, x) :: st) M bc bs Q := by
  subst hq
  exact zr_sto (fun _ h => (z_ok1 h).1) (fun h => (z_ok1 h).2) hc (fun C p l e s m args below meth c H locs cells slots lsA Z hx hb hl k => lv_astoreQn (r := z_rf C x) hx hb hd hl hn k) kk
theorem zr_iinc {i : Nat} {n x : Int} (hi : ls[i]? = some (0, x)) (hd : decode Y.2.1 pc = .ok (.iinc i n, 3)) (hq : pc + 3 = q) (hn : i < Y.2.2.1) (hc : z_c1 ls i = true) (hr : z_in x → z_in (x + n)) (kk : z_Ex Y S q (ls.set i (0, x + n)) st M bc bs Q) : z_Ex Y S pc ls st M bc bs Q := by
  subst hq
  refine zr_sto (fun hl _ => z_iok (hr (z_oki (hl _ (List.mem_of_getElem? hi))))) (fun h => h) hc (fun C p l e s m args below meth c H locs cells slots lsA Z hx hb hl k => ?_) kk
  obtain ⟨j, hj⟩ := List.getElem?_of_mem (z_lv_mem (C := C) hi z_k9a)
  exact lv_iinc hx hb hd hl hj (by rw [← Int32.ofInt_add]) hn rfl k
end ZT
