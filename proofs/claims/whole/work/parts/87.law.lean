/-! dep: 82 83 84 85 86 -/
/-! ===== rules for the law ===== -/
section ZLW
variable {Y : zY} {S : zS} {pc q : Nat} {ls st st' : List zV} {M : zM} {bc bs : Nat} {Q : zV → zS → zM → Prop}
theorem zr_room {b1 b2 : Nat} (kk : z_Ex Y S pc ls st M b1 b2 Q) (h1 : b1 ≤ bc) (h2 : b2 ≤ bs) : z_Ex Y S pc ls st M bc bs Q := by
  intro C p l e s m args below meth c H locs cells slots lsA F St
  obtain ⟨hl, hP, hS, hsz, hokM, hokl, hoks, hc1, hc2⟩ := St
  exact kk C p l e s m args below meth c H locs cells slots lsA F ⟨hl, hP, hS, hsz, hokM, hokl, hoks, by omega, by omega⟩
/-- locals forgotten -/
theorem zr_fg {ls' : List zV} (h : ∀ (i : Nat) (v : zV), ls'[i]? = some v → v.1 = 9 ∨ ls[i]? = some v) (kk : z_Ex Y S pc ls' st M bc bs Q) : z_Ex Y S pc ls st M bc bs Q := by
  intro C p l e s m args below meth c H locs cells slots lsA F St
  obtain ⟨hl, hP, hS, hsz, hokM, hokl, hoks, hc1, hc2⟩ := St
  refine kk C p l e s m args below meth c H locs cells slots lsA F ⟨z_has_sub hl ?_, hP, hS, hsz, hokM, ?_, hoks, hc1, hc2⟩
  · intro q9 hq
    obtain ⟨v, h1, h2, h3⟩ := z_lv_of hq
    rcases h _ _ h1 with h9 | h9
    · exact absurd h9 h2
    · have := z_lv_mem (C := C) h9 h2
      rw [← h3] at this
      exact this
  · intro v hv
    obtain ⟨i, hi⟩ := List.getElem?_of_mem hv
    rcases h _ _ hi with h9 | h9
    · intro h2; omega
    · exact hokl _ (List.mem_of_getElem? h9)
theorem zr_fg3 {a0 a1 a2 a3 a4 a5 a6 a7 a8 : zV} (kk : z_Ex Y S pc [a0, a1, a2, a3, a4, a5, (9, 0), (9, 0), (9, 0)] st M bc bs Q) : z_Ex Y S pc [a0, a1, a2, a3, a4, a5, a6, a7, a8] st M bc bs Q := by
  refine zr_fg (fun i v h => ?_) kk
  match i, h with
  | 0, h => exact Or.inr h
  | 1, h => exact Or.inr h
  | 2, h => exact Or.inr h
  | 3, h => exact Or.inr h
  | 4, h => exact Or.inr h
  | 5, h => exact Or.inr h
  | 6, h => cases h; exact Or.inl rfl
  | 7, h => cases h; exact Or.inl rfl
  | 8, h => cases h; exact Or.inl rfl
  | n + 9, h => simp at h
/-- the heap that is the last one's shape may be taken for it -/
theorem zr_shp (h : zShp S 530 zK) (kk : z_Ex Y zF pc ls st M bc bs Q) : z_Ex Y S pc ls st M bc bs Q := by
  intro C p l e s m args below meth c H locs cells slots lsA F St
  obtain ⟨hl, hP, hS, hsz, hokM, hokl, hoks, hc1, hc2⟩ := St
  obtain ⟨h1, h2, h3⟩ := h
  have hW : z_W C zF M = z_W C S M := by
    unfold z_W
    rw [h2]
    apply List.map_congr_left
    intro i hi
    have hi2 : i < 530 := by
      rw [List.mem_range] at hi
      exact hi
    have e : S.2.2 ((i : Int) + 1) = zF.2.2 ((i : Int) + 1) := h3 _ (by omega) (by omega)
    rw [e]
  refine kk C p l e s m args below meth c H locs cells slots lsA F ⟨hl, by rw [hW]; exact hP, hS, fun h => Bool.noConfusion h, ?_, hokl, hoks, hc1, hc2⟩
  intro z j z0 z1 hz
  have z2 : z ≤ ((530 : Nat) : Int) := z1
  refine hokM z j z0 (by rw [h2]; exact z2) ?_
  rw [h3 z z0 z2]
  exact hz
/-- the script -/
def zScr (L : Nat) (xs : Nat → Int32) : zC → State → Prop := fun C s => va_X (C.2.1 98) L xs s s.heap ∧ C.2.1 98 < s.heap.size ∧ ¬ z_A C (C.2.1 98)
theorem zr_slen {L : Nat} {xs : Nat → Int32} (hY : ∀ C s, Y.2.2.2.2.2.2.2.2 C s → zScr L xs C s) (hL : L ≤ 1536) (hd : decode Y.2.1 pc = .ok (.arraylength, 1)) (hq : pc + 1 = q) (kk : z_Ex Y S q ls ((0, (L : Int)) :: st) M bc bs Q) : z_Ex Y S pc ls ((1, -98) :: st) M bc bs Q := by
  intro C p l e s m args below meth cc H locs cells slots lsA F St
  obtain ⟨hx, hb, hr, hml, hown, hts, hnm, hlk, hex, hst, hbase, hK, hKC, hCX⟩ := id F
  obtain ⟨hl, hP, hS, hsz, hokM, hokl, hoks, hc1, hc2⟩ := id St
  subst hq
  obtain ⟨hX, hbl, hbA⟩ := hY C s hCX
  show W _ _ _ _ _ _ _ _ _ _ _ _ _ _ _ (F0 m pc lsA (.ref (C.2.1 98) :: st.map (z_cv C)))
  refine va_slen hx hb hX hbl hbA hS hd ?_
  rw [← Int32.ofInt_eq_ofNat]
  exact kk C p l e s m args below meth cc H locs cells slots lsA F ⟨hl, hP, hS, hsz, hokM, hokl, z_okc (z_iok (by unfold z_in; omega)) (z_ok1 hoks).2, hc1, hc2⟩
theorem zr_sald {L : Nat} {xs : Nat → Int32} {i : Int} (hY : ∀ C s, Y.2.2.2.2.2.2.2.2 C s → zScr L xs C s) (h0 : 0 ≤ i) (h1 : i < (L : Int)) (hd : decode Y.2.1 pc = .ok (.iaload, 1)) (hq : pc + 1 = q) (kk : z_Ex Y S q ls ((0, (xs i.toNat).toInt) :: st) M bc bs Q) : z_Ex Y S pc ls ((0, i) :: (1, -98) :: st) M bc bs Q := by
  intro C p l e s m args below meth cc H locs cells slots lsA F St
  obtain ⟨hx, hb, hr, hml, hown, hts, hnm, hlk, hex, hst, hbase, hK, hKC, hCX⟩ := id F
  obtain ⟨hl, hP, hS, hsz, hokM, hokl, hoks, hc1, hc2⟩ := id St
  subst hq
  obtain ⟨hX, hbl, hbA⟩ := hY C s hCX
  have hii := z_oki (z_ok1 hoks).1
  show W _ _ _ _ _ _ _ _ _ _ _ _ _ _ _ (F0 m pc lsA (.int (Int32.ofInt i) :: .ref (C.2.1 98) :: st.map (z_cv C)))
  refine va_sld hx hb hX hbl hbA hS (zn_ix h0 h1 hii) hd ?_
  rw [show (Int32.ofInt i).toNatClampNeg = i.toNat by rw [zn_clamp hii]]
  have e9 : xs i.toNat = Int32.ofInt (xs i.toNat).toInt := (Int32.ofInt_toInt _).symm
  have k9 := kk C p l e s m args below meth cc H locs cells slots lsA F ⟨hl, hP, hS, hsz, hokM, hokl, z_okc (z_iok ⟨Int32.le_toInt _, Int32.toInt_lt _⟩) (z_ok1 (z_ok1 hoks).2).2, hc1, hc2⟩
  rw [List.map_cons, show z_cv C (0, (xs i.toNat).toInt) = .int (Int32.ofInt (xs i.toNat).toInt) from rfl, ← e9] at k9
  exact k9
theorem zl_and63 (x : Int) : Int32.ofInt x &&& Int32.ofInt 63 = Int32.ofInt (x % 64) := by
  apply Int32.toBitVec_inj.mp
  apply BitVec.eq_of_toNat_eq
  rw [Int32.toBitVec_and, BitVec.toNat_and, Int32.toBitVec_ofInt, Int32.toBitVec_ofInt, Int32.toBitVec_ofInt, BitVec.toNat_ofInt, BitVec.toNat_ofInt, BitVec.toNat_ofInt]
  rw [show ((63 : Int) % ((2 ^ 32 : Nat) : Int)).toNat = 2 ^ 6 - 1 by decide, Nat.and_two_pow_sub_one_eq_mod]
  omega
theorem zr_and63 {x : Int} (hd : decode Y.2.1 pc = .ok (.iand, 1)) (hq : pc + 1 = q) (kk : z_Ex Y S q ls ((0, x % 64) :: st) M bc bs Q) : z_Ex Y S pc ls ((0, 63) :: (0, x) :: st) M bc bs Q := by
  subst hq
  refine zr_st (fun _ h => z_okc (z_iok (by unfold z_in; omega)) (z_ok2 h).2.2) (fun _ _ C p l e s m args below meth c H locs cells slots lsA Z hx hb hl k => lv_iand hx hb hd ?_) kk
  rw [zl_and63]
  exact k
theorem zr_fload {i : Nat} {x : Int} (hi : ls[i]? = some (3, x)) (hd : decode Y.2.1 pc = .ok (.fload i, 2)) (hq : pc + 2 = q) (kk : z_Ex Y S q ls ((3, x) :: st) M bc bs Q) : z_Ex Y S pc ls st M bc bs Q := by
  subst hq
  exact zr_st (fun hl h => z_okc zok_3 h) (fun _ _ C p l e s m args below meth c H locs cells slots lsA Z hx hb hl k => lv_fload hx hb hd (z_lv_at hl hi (show (3 : Nat) ≠ 9 by decide)) k) kk
theorem zr_dload {i : Nat} {x : Int} (hi : ls[i]? = some (4, x)) (hd : decode Y.2.1 pc = .ok (.dload i, 2)) (hq : pc + 2 = q) (kk : z_Ex Y S q ls ((4, x) :: st) M bc bs Q) : z_Ex Y S pc ls st M bc bs Q := by
  subst hq
  exact zr_st (fun hl h => z_okc zok_4 h) (fun _ _ C p l e s m args below meth c H locs cells slots lsA Z hx hb hl k => lv_dload hx hb hd (z_lv_at hl hi (show (4 : Nat) ≠ 9 by decide)) k) kk
theorem zr_fstore {i : Nat} {x : Int} (hd : decode Y.2.1 pc = .ok (.fstore i, 2)) (hq : pc + 2 = q) (hn : i < Y.2.2.1) (hc : z_c1 ls i = true) (kk : z_Ex Y S q (ls.set i (3, x)) st M bc bs Q) : z_Ex Y S pc ls ((3, x) :: st) M bc bs Q := by
  subst hq
  exact zr_sto (v := (3, x)) (fun _ _ => zok_3) (fun h => (z_ok1 h).2) hc (fun C p l e s m args below meth c H locs cells slots lsA Z hx hb hl k => lv_fstore hx hb hd hl hn rfl k) kk
theorem zr_dstore {i : Nat} {x : Int} (h9 : ls[i + 1]? = some (9, 0)) (hd : decode Y.2.1 pc = .ok (.dstore i, 2)) (hq : pc + 2 = q) (hn : i + 1 < Y.2.2.1) (hc : z_c1 ls i = true) (kk : z_Ex Y S q (ls.set i (4, x)) st M bc bs Q) : z_Ex Y S pc ls ((4, x) :: st) M bc bs Q := by
  subst hq
  intro C p l e s m args below meth cc H locs cells slots lsA F St
  obtain ⟨hl, hP, hS, hsz, hokM, hokl, hoks, hc1, hc2⟩ := id St
  refine lv_dstore F.1 F.2.1 hd hl hn rfl (fun lsB hB => ?_)
  refine kk C p l e s m args below meth cc H locs cells slots lsB F ⟨z_has_sub hB ?_, hP, hS, hsz, hokM, ?_, (z_ok1 hoks).2, hc1, hc2⟩
  · intro q9 hq9
    have h1 := z_lv_set (C := C) (v := (4, x)) hc q9 hq9
    rcases List.mem_cons.mp h1 with h2 | h2
    · rw [h2]; exact List.mem_cons_self
    · refine List.mem_cons_of_mem _ ?_
      obtain ⟨m1, m2⟩ := List.mem_filter.mp h2
      refine List.mem_filter.mpr ⟨m1, ?_⟩
      obtain ⟨v, v1, v2, v3⟩ := z_lv_of m1
      have n1 : (q9.1 == i + 1) = false := by
        rw [beq_eq_false_iff_ne]
        intro e
        rw [e, h9] at v1
        cases v1
        exact v2 rfl
      rw [n1]
      simpa using m2
  · intro w hw
    rcases List.mem_or_eq_of_mem_set hw with h | h
    · exact hokl w h
    · rw [h]; exact zok_4
theorem zr_dcmpe {x : Int} {op : CmpOp} (hx : vf_n64 (UInt64.ofNat x.toNat)) (hd : decode Y.2.1 pc = .ok (.dcmp op, 1)) (hq : pc + 1 = q) (kk : z_Ex Y S q ls ((0, 0) :: st) M bc bs Q) : z_Ex Y S pc ls ((4, x) :: (4, x) :: st) M bc bs Q := by
  subst hq
  refine zr_st (fun _ h => z_okc (z_iok (z_in_of rfl)) (z_ok2 h).2.2) (fun _ h C p l e s m args below meth cc H locs cells slots lsA Z hx9 hb hl k => ?_) kk
  refine lv_dcmp hx9 hb hd ?_
  rw [zf_dcmp hx]
  cases op <;> exact k
end ZLW
