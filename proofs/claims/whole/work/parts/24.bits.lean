/-! dep: 20 21 -/
/-! ===== sets of eight as ints ===== -/
theorem zb_shr : ∀ x : Fin 256, ∀ k : Fin 8, Int32.ofNat (x : Nat) >>> (Int32.ofNat (k : Nat) &&& 31) = Int32.ofNat ((x : Nat) >>> (k : Nat)) := by decide +kernel
theorem zb_shl : ∀ k : Fin 8, (1 : Int32) <<< (Int32.ofNat (k : Nat) &&& 31) = Int32.ofNat (1 <<< (k : Nat)) := by decide +kernel
theorem zb_not : ∀ k : Fin 8, Int32.ofNat (1 <<< (k : Nat)) ^^^ (-1 : Int32) = Int32.ofInt (-1 - ((1 <<< (k : Nat) : Nat) : Int)) := by decide +kernel
theorem zb_andn : ∀ x : Fin 256, ∀ k : Fin 8, Int32.ofNat (x : Nat) &&& Int32.ofInt (-1 - ((1 <<< (k : Nat) : Nat) : Int)) = Int32.ofNat ((x : Nat) &&& (255 ^^^ (1 <<< (k : Nat)))) := by decide +kernel
theorem zb_or (a b : Nat) : Int32.ofNat a ||| Int32.ofNat b = Int32.ofNat (a ||| b) := by
  apply Int32.toBitVec_inj.mp
  show BitVec.ofNat 32 a ||| BitVec.ofNat 32 b = BitVec.ofNat 32 (a ||| b)
  exact (BitVec.ofNat_or).symm
theorem zb_and (a b : Nat) : Int32.ofNat a &&& Int32.ofNat b = Int32.ofNat (a &&& b) := by
  apply Int32.toBitVec_inj.mp
  show BitVec.ofNat 32 a &&& BitVec.ofNat 32 b = BitVec.ofNat 32 (a &&& b)
  exact (BitVec.ofNat_and).symm
theorem zb_nat {x : Int} (h : 0 ≤ x) : Int32.ofInt x = Int32.ofNat x.toNat := by
  obtain ⟨n, rfl⟩ := Int.eq_ofNat_of_zero_le h
  rw [Int32.ofInt_eq_ofNat]
  rfl
theorem zb_int (n : Nat) : Int32.ofNat n = Int32.ofInt (n : Int) := (Int32.ofInt_eq_ofNat).symm
theorem z_in_nat {n : Nat} (h : n < 256) : z_in (n : Int) := by unfold z_in; omega
theorem z_in_natn {n : Nat} (h : n < 256) : z_in (-1 - (n : Int)) := by unfold z_in; omega
section ZBI
variable {Y : zY} {S : zS} {pc q : Nat} {ls st : List zV} {M : zM} {bc bs : Nat} {Q : zV → zS → zM → Prop}
theorem zb_lt {a b : Nat} (ha : a < 256) (hb : b < 256) : a ||| b < 256 := Nat.or_lt_two_pow (n := 8) ha hb
theorem zr_ishr {x k : Int} (h0 : 0 ≤ x) (h1 : x < 256) (k0 : 0 ≤ k) (k1 : k < 8) (hd : decode Y.2.1 pc = .ok (.ishr, 1)) (hq : pc + 1 = q) (kk : z_Ex Y S q ls ((0, ((x.toNat >>> k.toNat : Nat) : Int)) :: st) M bc bs Q) : z_Ex Y S pc ls ((0, k) :: (0, x) :: st) M bc bs Q := by
  subst hq
  have hlt : x.toNat >>> k.toNat < 256 := by
    have := Nat.shiftRight_le x.toNat k.toNat
    omega
  refine zr_st (fun _ h => z_okc (z_iok (z_in_nat hlt)) (z_ok2 h).2.2) (fun _ h C p l e s m args below meth c H locs cells slots lsA Z hx hb hl kw => lv_ishr (x := Int32.ofInt x) (y := Int32.ofInt k) hx hb hd ?_) kk
  have e := zb_shr ⟨x.toNat, by omega⟩ ⟨k.toNat, by omega⟩
  dsimp only at e
  rw [zb_nat h0, zb_nat k0, e, zb_int]
  exact kw
theorem zr_ishl {k : Int} (k0 : 0 ≤ k) (k1 : k < 8) (hd : decode Y.2.1 pc = .ok (.ishl, 1)) (hq : pc + 1 = q) (kk : z_Ex Y S q ls ((0, ((1 <<< k.toNat : Nat) : Int)) :: st) M bc bs Q) : z_Ex Y S pc ls ((0, k) :: (0, 1) :: st) M bc bs Q := by
  subst hq
  have hlt : 1 <<< k.toNat < 256 := by
    rw [Nat.one_shiftLeft]
    have : 2 ^ k.toNat ≤ 2 ^ 7 := Nat.pow_le_pow_right (by omega) (by omega)
    omega
  refine zr_st (fun _ h => z_okc (z_iok (z_in_nat hlt)) (z_ok2 h).2.2) (fun _ h C p l e s m args below meth c H locs cells slots lsA Z hx hb hl kw => lv_ishl (x := Int32.ofInt 1) (y := Int32.ofInt k) hx hb hd ?_) kk
  have e := zb_shl ⟨k.toNat, by omega⟩
  dsimp only at e
  rw [zb_nat k0, show Int32.ofInt 1 = (1 : Int32) from rfl, e, zb_int]
  exact kw
theorem zr_ior {x y : Int} (h0 : 0 ≤ x) (h1 : x < 256) (k0 : 0 ≤ y) (k1 : y < 256) (hd : decode Y.2.1 pc = .ok (.ior, 1)) (hq : pc + 1 = q) (kk : z_Ex Y S q ls ((0, ((x.toNat ||| y.toNat : Nat) : Int)) :: st) M bc bs Q) : z_Ex Y S pc ls ((0, y) :: (0, x) :: st) M bc bs Q := by
  subst hq
  have hlt : x.toNat ||| y.toNat < 256 := zb_lt (by omega) (by omega)
  refine zr_st (fun _ h => z_okc (z_iok (z_in_nat hlt)) (z_ok2 h).2.2) (fun _ h C p l e s m args below meth c H locs cells slots lsA Z hx hb hl kw => lv_ior (x := Int32.ofInt x) (y := Int32.ofInt y) hx hb hd ?_) kk
  rw [zb_nat h0, zb_nat k0, zb_or, zb_int]
  exact kw
theorem zr_iand {x y : Int} (h0 : 0 ≤ x) (k0 : 0 ≤ y) (hd : decode Y.2.1 pc = .ok (.iand, 1)) (hq : pc + 1 = q) (kk : z_Ex Y S q ls ((0, ((x.toNat &&& y.toNat : Nat) : Int)) :: st) M bc bs Q) : z_Ex Y S pc ls ((0, y) :: (0, x) :: st) M bc bs Q := by
  subst hq
  refine zr_st (fun _ h => z_okc (z_iok ?_) (z_ok2 h).2.2) (fun _ h C p l e s m args below meth c H locs cells slots lsA Z hx hb hl kw => lv_iand (x := Int32.ofInt x) (y := Int32.ofInt y) hx hb hd ?_) kk
  · have h9 := z_oki (z_ok2 h).2.1
    have : x.toNat &&& y.toNat ≤ x.toNat := Nat.and_le_left
    have h8 := h9.2
    constructor <;> omega
  · rw [zb_nat h0, zb_nat k0, zb_and, zb_int]
    exact kw
theorem zr_inot {k : Int} (k0 : 0 ≤ k) (k1 : k < 8) (hd : decode Y.2.1 pc = .ok (.ixor, 1)) (hq : pc + 1 = q) (kk : z_Ex Y S q ls ((0, -1 - ((1 <<< k.toNat : Nat) : Int)) :: st) M bc bs Q) : z_Ex Y S pc ls ((0, -1) :: (0, ((1 <<< k.toNat : Nat) : Int)) :: st) M bc bs Q := by
  subst hq
  have hlt : 1 <<< k.toNat < 256 := by
    rw [Nat.one_shiftLeft]
    have : 2 ^ k.toNat ≤ 2 ^ 7 := Nat.pow_le_pow_right (by omega) (by omega)
    omega
  refine zr_st (fun _ h => z_okc (z_iok (z_in_natn hlt)) (z_ok2 h).2.2) (fun _ h C p l e s m args below meth c H locs cells slots lsA Z hx hb hl kw => lv_ixor (x := Int32.ofInt ((1 <<< k.toNat : Nat) : Int)) (y := Int32.ofInt (-1)) hx hb hd ?_) kk
  have e := zb_not ⟨k.toNat, by omega⟩
  dsimp only at e
  rw [← zb_int, show Int32.ofInt (-1) = (-1 : Int32) from rfl, e]
  exact kw
theorem zr_iandn {x k : Int} (h0 : 0 ≤ x) (h1 : x < 256) (k0 : 0 ≤ k) (k1 : k < 8) (hd : decode Y.2.1 pc = .ok (.iand, 1)) (hq : pc + 1 = q) (kk : z_Ex Y S q ls ((0, ((x.toNat &&& (255 ^^^ (1 <<< k.toNat)) : Nat) : Int)) :: st) M bc bs Q) : z_Ex Y S pc ls ((0, -1 - ((1 <<< k.toNat : Nat) : Int)) :: (0, x) :: st) M bc bs Q := by
  subst hq
  have hlt : x.toNat &&& (255 ^^^ (1 <<< k.toNat)) ≤ x.toNat := Nat.and_le_left
  refine zr_st (fun _ h => z_okc (z_iok ⟨by omega, by omega⟩) (z_ok2 h).2.2) (fun _ h C p l e s m args below meth c H locs cells slots lsA Z hx hb hl kw => lv_iand (x := Int32.ofInt x) (y := Int32.ofInt (-1 - ((1 <<< k.toNat : Nat) : Int))) hx hb hd ?_) kk
  have e := zb_andn ⟨x.toNat, by omega⟩ ⟨k.toNat, by omega⟩
  dsimp only at e
  rw [zb_nat h0, e, zb_int]
  exact kw
end ZBI
/-- S is the set A -/
def zBits (S : Int) (A : Int → Bool) : Prop := (0 ≤ S ∧ S < 256) ∧ ∀ k, 0 ≤ k → k < 8 → S.toNat.testBit k.toNat = A k
theorem zt_bit : ∀ x : Fin 256, ∀ k : Fin 8, (((x : Nat) >>> (k : Nat)) &&& 1 = if (x : Nat).testBit (k : Nat) = true then 1 else 0) := by decide +kernel
theorem zt_or : ∀ x : Fin 256, ∀ k j : Fin 8, ((x : Nat) ||| (1 <<< (k : Nat))).testBit (j : Nat) = ((x : Nat).testBit (j : Nat) || decide ((j : Nat) = (k : Nat))) := by decide +kernel
theorem zt_andn : ∀ x : Fin 256, ∀ k j : Fin 8, ((x : Nat) &&& (255 ^^^ (1 <<< (k : Nat)))).testBit (j : Nat) = ((x : Nat).testBit (j : Nat) && decide ((j : Nat) ≠ (k : Nat))) := by decide +kernel
theorem zt_ne : ∀ x : Fin 256, (x : Nat) ≠ 0 → ∃ k : Fin 8, (x : Nat).testBit (k : Nat) = true := by decide +kernel
theorem zBits.bit {S : Int} {A : Int → Bool} (h : zBits S A) {k : Int} (k0 : 0 ≤ k) (k1 : k < 8) : ((S.toNat >>> k.toNat) &&& 1 : Nat) = if A k = true then 1 else 0 := by
  have := zt_bit ⟨S.toNat, by have := h.1; omega⟩ ⟨k.toNat, by omega⟩
  dsimp only at this
  rw [this, h.2 k k0 k1]
theorem zBits.none {S : Int} {A : Int → Bool} (h : zBits S A) (h0 : S = 0) : ∀ k, 0 ≤ k → k < 8 → A k = false := by
  intro k k0 k1
  rw [← h.2 k k0 k1, h0]
  exact Nat.zero_testBit _
theorem zBits.some {S : Int} {A : Int → Bool} (h : zBits S A) (h0 : S ≠ 0) : ∃ k, 0 ≤ k ∧ k < 8 ∧ A k = true := by
  obtain ⟨⟨k, hk⟩, h1⟩ := zt_ne ⟨S.toNat, by have := h.1; omega⟩ (by have := h.1; show S.toNat ≠ 0; omega)
  dsimp only at h1
  refine ⟨(k : Int), by omega, by omega, ?_⟩
  rw [← h.2 k (by omega) (by omega), show ((k : Int)).toNat = k by omega]
  exact h1
theorem zBits.put {S : Int} {A : Int → Bool} (h : zBits S A) {k : Int} (k0 : 0 ≤ k) (k1 : k < 8) : zBits ((S.toNat ||| (1 <<< k.toNat) : Nat) : Int) (fun j => A j || decide (j = k)) := by
  have hlt : 1 <<< k.toNat < 256 := by
    rw [Nat.one_shiftLeft]
    have : 2 ^ k.toNat ≤ 2 ^ 7 := Nat.pow_le_pow_right (by omega) (by omega)
    omega
  have h1 := h.1
  have h2 : S.toNat ||| (1 <<< k.toNat) < 256 := zb_lt (by omega) hlt
  refine ⟨by omega, fun j j0 j1 => ?_⟩
  have := zt_or ⟨S.toNat, by omega⟩ ⟨k.toNat, by omega⟩ ⟨j.toNat, by omega⟩
  dsimp only at this
  rw [show (((S.toNat ||| (1 <<< k.toNat) : Nat)) : Int).toNat = S.toNat ||| (1 <<< k.toNat) by omega, this, h.2 j j0 j1]
  congr 1
  exact decide_eq_decide.mpr (by omega)
theorem zBits.del {S : Int} {A : Int → Bool} (h : zBits S A) {k : Int} (k0 : 0 ≤ k) (k1 : k < 8) : zBits ((S.toNat &&& (255 ^^^ (1 <<< k.toNat)) : Nat) : Int) (fun j => A j && decide (j ≠ k)) := by
  have h1 := h.1
  have h2 : S.toNat &&& (255 ^^^ (1 <<< k.toNat)) ≤ S.toNat := Nat.and_le_left
  refine ⟨by omega, fun j j0 j1 => ?_⟩
  have := zt_andn ⟨S.toNat, by omega⟩ ⟨k.toNat, by omega⟩ ⟨j.toNat, by omega⟩
  dsimp only at this
  rw [show (((S.toNat &&& (255 ^^^ (1 <<< k.toNat)) : Nat)) : Int).toNat = S.toNat &&& (255 ^^^ (1 <<< k.toNat)) by omega, this, h.2 j j0 j1]
  congr 1
  exact decide_eq_decide.mpr (by omega)
