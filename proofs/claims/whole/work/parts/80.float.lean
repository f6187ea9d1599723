/-! ===== shares and means: floats ===== -/
theorem zf_mask32 {v : Nat} (h : v % 2147483648 ≤ 2139095040) : vf_n32 (UInt32.ofNat v) := by
  unfold vf_n32
  rw [UInt32.le_iff_toNat_le, UInt32.toNat_and]
  have h1 : (0x7fffffff : UInt32).toNat = 2 ^ 31 - 1 := by decide
  have h2 : (0x7f800000 : UInt32).toNat = 2139095040 := by decide
  have h3 : (UInt32.ofNat v).toNat = v % 4294967296 := UInt32.toNat_ofNat
  rw [h1, h2, Nat.and_two_pow_sub_one_eq_mod, h3]
  omega
theorem zf_mask64 {v : Nat} (h : v % 9223372036854775808 ≤ 9218868437227405312) : vf_n64 (UInt64.ofNat v) := by
  unfold vf_n64
  rw [UInt64.le_iff_toNat_le, UInt64.toNat_and]
  have h1 : (0x7fffffffffffffff : UInt64).toNat = 2 ^ 63 - 1 := by decide
  have h2 : (0x7ff0000000000000 : UInt64).toNat = 9218868437227405312 := by decide
  have h3 : (UInt64.ofNat v).toNat = v % 18446744073709551616 := UInt64.toNat_ofNat
  rw [h1, h2, Nat.and_two_pow_sub_one_eq_mod, h3]
  omega
theorem zf_b32 : FP.Core.b32.tails = 8388608 ∧ FP.Core.b32.exps = 256 ∧ FP.Core.b32.qmin = -149 ∧ FP.Core.b32.qmax = 104 ∧ 2 ^ FP.Core.b32.p = 16777216 := by decide
theorem zf_b64 : FP.Core.b64.tails = 4503599627370496 ∧ FP.Core.b64.exps = 2048 ∧ FP.Core.b64.qmin = -1074 ∧ FP.Core.b64.qmax = 971 ∧ 2 ^ FP.Core.b64.p = 9007199254740992 := by decide +kernel
theorem zf_s (s : Bool) : s.toNat ≤ 1 := by cases s <;> decide
theorem zf_fin32 (s : Bool) (c : Nat) (q : Int) (hc : c < 16777216) (hq : q ≤ 104) : FP.Core.encode FP.Core.b32 (.fin s c q) % 2147483648 ≤ 2139095040 := by
  obtain ⟨h1, h2, h3, h4, h5⟩ := zf_b32
  have hs := zf_s s
  unfold FP.Core.encode FP.Core.assemble
  rw [h1, h2, h3]
  dsimp only
  split <;> omega
theorem zf_inf32 (s : Bool) : FP.Core.encode FP.Core.b32 (.inf s) % 2147483648 ≤ 2139095040 := by
  cases s <;> decide
theorem zf_fin64 (s : Bool) (c : Nat) (q : Int) (hc : c < 9007199254740992) (hq : q ≤ 971) : FP.Core.encode FP.Core.b64 (.fin s c q) % 9223372036854775808 ≤ 9218868437227405312 := by
  obtain ⟨h1, h2, h3, h4, h5⟩ := zf_b64
  have hs := zf_s s
  unfold FP.Core.encode FP.Core.assemble
  rw [h1, h2, h3]
  dsimp only
  split <;> omega
theorem zf_inf64 (s : Bool) : FP.Core.encode FP.Core.b64 (.inf s) % 9223372036854775808 ≤ 9218868437227405312 := by
  cases s <;> decide +kernel
theorem zf_settle32 (s : Bool) (c : Nat) (q : Int) : FP.Core.encode FP.Core.b32 (FP.Core.settle FP.Core.b32 s c q) % 2147483648 ≤ 2139095040 := by
  obtain ⟨h1, h2, h3, h4, h5⟩ := zf_b32
  unfold FP.Core.settle FP.Core.bound
  rw [h5, h4, h1]
  by_cases a : c < 16777216
  · rw [if_pos a]
    by_cases b : q ≤ 104
    · rw [if_pos b]; exact zf_fin32 s c q a b
    · rw [if_neg b]; exact zf_inf32 s
  · rw [if_neg a]
    by_cases b : q + 1 ≤ 104
    · rw [if_pos b]; exact zf_fin32 s _ _ (by decide) b
    · rw [if_neg b]; exact zf_inf32 s
theorem zf_settle64 (s : Bool) (c : Nat) (q : Int) : FP.Core.encode FP.Core.b64 (FP.Core.settle FP.Core.b64 s c q) % 9223372036854775808 ≤ 9218868437227405312 := by
  obtain ⟨h1, h2, h3, h4, h5⟩ := zf_b64
  unfold FP.Core.settle FP.Core.bound
  rw [h5, h4, h1]
  by_cases a : c < 9007199254740992
  · rw [if_pos a]
    by_cases b : q ≤ 971
    · rw [if_pos b]; exact zf_fin64 s c q a b
    · rw [if_neg b]; exact zf_inf64 s
  · rw [if_neg a]
    by_cases b : q + 1 ≤ 971
    · rw [if_pos b]; exact zf_fin64 s _ _ (by decide) b
    · rw [if_neg b]; exact zf_inf64 s
theorem zf_ratio32 (s : Bool) (a b : Nat) (e : Int) : FP.Core.encode FP.Core.b32 (FP.Core.roundRatio FP.Core.b32 s a b e) % 2147483648 ≤ 2139095040 := by
  unfold FP.Core.roundRatio
  by_cases h : a = 0
  · rw [if_pos h]; exact zf_fin32 s 0 _ (by decide) (by decide)
  · rw [if_neg h]; exact zf_settle32 _ _ _
theorem zf_ratio64 (s : Bool) (a b : Nat) (e : Int) : FP.Core.encode FP.Core.b64 (FP.Core.roundRatio FP.Core.b64 s a b e) % 9223372036854775808 ≤ 9218868437227405312 := by
  unfold FP.Core.roundRatio
  by_cases h : a = 0
  · rw [if_pos h]; exact zf_fin64 s 0 _ (by decide) (by decide)
  · rw [if_neg h]; exact zf_settle64 _ _ _
/-- finite, and not zero where asked -/
def zf_ok (d : FP.Core.Datum) (nz : Bool) : Bool := match d with
  | .fin _ c _ => !(nz && c == 0)
  | _ => false
theorem zf_i32 : ∀ x : Fin 2048, zf_ok (FP.Core.decode FP.Core.b32 (FP.i2f (Int32.ofInt (x : Nat))).toNat) (decide (0 < (x : Nat))) = true := by decide +kernel
theorem zf_i64 : ∀ x : Fin 2048, zf_ok (FP.Core.decode FP.Core.b64 (FP.i2d (Int32.ofInt (x : Nat))).toNat) (decide (0 < (x : Nat))) = true := by decide +kernel
theorem zf_fin {d : FP.Core.Datum} {nz : Bool} (h : zf_ok d nz = true) : ∃ s c q, d = .fin s c q ∧ (nz = true → c ≠ 0) := by
  cases d with
  | nan => cases h
  | inf s => cases h
  | fin s c q =>
    refine ⟨s, c, q, rfl, fun e => ?_⟩
    intro hc
    subst hc
    subst e
    cases h
theorem zf_div32 {x y : Int} (x0 : 0 ≤ x) (x1 : x < 2048) (y0 : 0 < y) (y1 : y < 2048) : vf_n32 (FP.fdiv (FP.i2f (Int32.ofInt x)) (FP.i2f (Int32.ofInt y))) := by
  have hx := zf_i32 ⟨x.toNat, by omega⟩
  have hy := zf_i32 ⟨y.toNat, by omega⟩
  dsimp only at hx hy
  rw [show ((x.toNat : Nat) : Int) = x by omega] at hx
  rw [show ((y.toNat : Nat) : Int) = y by omega, show decide (0 < y.toNat) = true from decide_eq_true (by omega)] at hy
  obtain ⟨s, c, q, ex, _⟩ := zf_fin hx
  obtain ⟨t, d, r, ey, hd⟩ := zf_fin hy
  show vf_n32 (UInt32.ofNat (FP.Core.div FP.Core.b32 _ _))
  apply zf_mask32
  unfold FP.Core.div
  rw [ex, ey]
  unfold FP.Core.quotient
  dsimp only
  rw [if_neg (hd rfl)]
  exact zf_ratio32 _ _ _ _
theorem zf_div64 {x y : Int} (x0 : 0 ≤ x) (x1 : x < 2048) (y0 : 0 < y) (y1 : y < 2048) : vf_n64 (FP.ddiv (FP.i2d (Int32.ofInt x)) (FP.i2d (Int32.ofInt y))) := by
  have hx := zf_i64 ⟨x.toNat, by omega⟩
  have hy := zf_i64 ⟨y.toNat, by omega⟩
  dsimp only at hx hy
  rw [show ((x.toNat : Nat) : Int) = x by omega] at hx
  rw [show ((y.toNat : Nat) : Int) = y by omega, show decide (0 < y.toNat) = true from decide_eq_true (by omega)] at hy
  obtain ⟨s, c, q, ex, _⟩ := zf_fin hx
  obtain ⟨t, d, r, ey, hd⟩ := zf_fin hy
  show vf_n64 (UInt64.ofNat (FP.Core.div FP.Core.b64 _ _))
  apply zf_mask64
  unfold FP.Core.div
  rw [ex, ey]
  unfold FP.Core.quotient
  dsimp only
  rw [if_neg (hd rfl)]
  exact zf_ratio64 _ _ _ _
theorem zf_un32 {a : UInt32} (h : vf_n32 a) : a.toNat % 2147483648 ≤ 2139095040 := by
  unfold vf_n32 at h
  rw [UInt32.le_iff_toNat_le, UInt32.toNat_and] at h
  have h1 : (0x7fffffff : UInt32).toNat = 2 ^ 31 - 1 := by decide
  have h2 : (0x7f800000 : UInt32).toNat = 2139095040 := by decide
  rw [h1, h2, Nat.and_two_pow_sub_one_eq_mod] at h
  exact h
theorem zf_un64 {a : UInt64} (h : vf_n64 a) : a.toNat % 9223372036854775808 ≤ 9218868437227405312 := by
  unfold vf_n64 at h
  rw [UInt64.le_iff_toNat_le, UInt64.toNat_and] at h
  have h1 : (0x7fffffffffffffff : UInt64).toNat = 2 ^ 63 - 1 := by decide
  have h2 : (0x7ff0000000000000 : UInt64).toNat = 9218868437227405312 := by decide
  rw [h1, h2, Nat.and_two_pow_sub_one_eq_mod] at h
  exact h
theorem zf_dec32 {a : UInt32} (h : vf_n32 a) : FP.Core.decode FP.Core.b32 a.toNat ≠ .nan := by
  have hu := zf_un32 h
  obtain ⟨h1, h2, h3, h4, h5⟩ := zf_b32
  unfold FP.Core.decode FP.Core.fieldE FP.Core.fieldT
  rw [h1, h2]
  by_cases e : a.toNat / 8388608 % 256 = 256 - 1
  · rw [if_pos e, if_pos (by omega)]
    exact fun q => by cases q
  · rw [if_neg e]
    split
    · exact fun q => by cases q
    · exact fun q => by cases q
theorem zf_dec64 {a : UInt64} (h : vf_n64 a) : FP.Core.decode FP.Core.b64 a.toNat ≠ .nan := by
  have hu := zf_un64 h
  obtain ⟨h1, h2, h3, h4, h5⟩ := zf_b64
  unfold FP.Core.decode FP.Core.fieldE FP.Core.fieldT
  rw [h1, h2]
  by_cases e : a.toNat / 4503599627370496 % 2048 = 2048 - 1
  · rw [if_pos e, if_pos (by omega)]
    exact fun q => by cases q
  · rw [if_neg e]
    split
    · exact fun q => by cases q
    · exact fun q => by cases q
theorem zf_f2d {a : UInt32} (h : vf_n32 a) : vf_n64 (FP.f2d a) := by
  have hd := zf_dec32 h
  unfold FP.f2d FP.Core.fIsNaN FP.Core.isNaN
  rw [if_neg (by rw [decide_eq_true_iff]; exact hd)]
  show vf_n64 (UInt64.ofNat (FP.Core.convert _ _ _))
  apply zf_mask64
  unfold FP.Core.convert
  cases hD : FP.Core.decode FP.Core.b32 a.toNat with
  | nan => exact absurd hD hd
  | inf s => exact zf_inf64 s
  | fin s c q => exact zf_ratio64 _ _ _ _
theorem zf_cmp (x : Int) : compare x x = Ordering.eq := by
  show compareOfLessAndEq x x = _
  unfold compareOfLessAndEq
  rw [if_neg (by omega), if_pos rfl]
theorem zf_order {d : FP.Core.Datum} (h : d ≠ .nan) : FP.Core.order d d = some .eq := by
  cases d with
  | nan => exact absurd rfl h
  | inf s => exact congrArg some (zf_cmp _)
  | fin s c q => exact congrArg some (zf_cmp _)
theorem zf_dcmp {a : UInt64} (h : vf_n64 a) : FP.dcmp a a = some .eq := zf_order (zf_dec64 h)
theorem zf_fcmp {a : UInt32} (h : vf_n32 a) : FP.fcmp a a = some .eq := zf_order (zf_dec32 h)
/-! the numbers' bits -/
def zfI (x : Int) : Int := ((FP.i2f (Int32.ofInt x)).toNat : Int)
def zfD (x y : Int) : Int := ((FP.fdiv (FP.i2f (Int32.ofInt x)) (FP.i2f (Int32.ofInt y))).toNat : Int)
def zdI (x : Int) : Int := ((FP.i2d (Int32.ofInt x)).toNat : Int)
def zdD (x y : Int) : Int := ((FP.ddiv (FP.i2d (Int32.ofInt x)) (FP.i2d (Int32.ofInt y))).toNat : Int)
def zfE (x y : Int) : Int := ((FP.f2d (FP.fdiv (FP.i2f (Int32.ofInt x)) (FP.i2f (Int32.ofInt y)))).toNat : Int)
theorem zc_f {C : zC} (a : UInt32) : z_cv C (3, ((a.toNat : Nat) : Int)) = .float a := by
  show Value.float (UInt32.ofNat ((a.toNat : Nat) : Int).toNat) = .float a
  rw [Int.toNat_natCast, UInt32.ofNat_toNat]
theorem zc_d {C : zC} (a : UInt64) : z_cv C (4, ((a.toNat : Nat) : Int)) = .double a := by
  show Value.double (UInt64.ofNat ((a.toNat : Nat) : Int).toNat) = .double a
  rw [Int.toNat_natCast, UInt64.ofNat_toNat]
theorem zok_3 {x : Int} : z_ok (3, x) := fun h => absurd h (show ¬ (3 : Nat) ≤ 2 by decide)
theorem zok_4 {x : Int} : z_ok (4, x) := fun h => absurd h (show ¬ (4 : Nat) ≤ 2 by decide)
section ZFL
variable {Y : zY} {S : zS} {pc q : Nat} {ls st : List zV} {M : zM} {bc bs : Nat} {Q : zV → zS → zM → Prop}
theorem zr_i2f {x : Int} (hd : decode Y.2.1 pc = .ok (.i2f, 1)) (hq : pc + 1 = q) (kk : z_Ex Y S q ls ((3, zfI x) :: st) M bc bs Q) : z_Ex Y S pc ls ((0, x) :: st) M bc bs Q := by
  subst hq
  refine zr_st (fun _ h => z_okc zok_3 (z_ok1 h).2) (fun _ h C p l e s m args below meth cc H locs cells slots lsA Z hx hb hl k => ?_) kk
  rw [List.map_cons] at k
  unfold zfI at k
  rw [zc_f] at k
  exact lv_i2f hx hb hd k
theorem zr_i2d {x : Int} (hd : decode Y.2.1 pc = .ok (.i2d, 1)) (hq : pc + 1 = q) (kk : z_Ex Y S q ls ((4, zdI x) :: st) M bc bs Q) : z_Ex Y S pc ls ((0, x) :: st) M bc bs Q := by
  subst hq
  refine zr_st (fun _ h => z_okc zok_4 (z_ok1 h).2) (fun _ h C p l e s m args below meth cc H locs cells slots lsA Z hx hb hl k => ?_) kk
  rw [List.map_cons] at k
  unfold zdI at k
  rw [zc_d] at k
  exact lv_i2d hx hb hd k
theorem zr_fdiv {x y : Int} (x0 : 0 ≤ x) (x1 : x < 2048) (y0 : 0 < y) (y1 : y < 2048) (hd : decode Y.2.1 pc = .ok (.fdiv, 1)) (hq : pc + 1 = q) (kk : z_Ex Y S q ls ((3, zfD x y) :: st) M bc bs Q) : z_Ex Y S pc ls ((3, zfI y) :: (3, zfI x) :: st) M bc bs Q := by
  subst hq
  refine zr_st (fun _ h => z_okc zok_3 (z_ok2 h).2.2) (fun _ h C p l e s m args below meth cc H locs cells slots lsA Z hx hb hl k => ?_) kk
  rw [List.map_cons] at k
  rw [List.map_cons, List.map_cons]
  unfold zfD at k
  unfold zfI
  rw [zc_f] at k
  rw [zc_f, zc_f]
  exact lv_fdiv hx hb hd (zf_div32 x0 x1 y0 y1) k
theorem zr_ddiv {x y : Int} (x0 : 0 ≤ x) (x1 : x < 2048) (y0 : 0 < y) (y1 : y < 2048) (hd : decode Y.2.1 pc = .ok (.ddiv, 1)) (hq : pc + 1 = q) (kk : z_Ex Y S q ls ((4, zdD x y) :: st) M bc bs Q) : z_Ex Y S pc ls ((4, zdI y) :: (4, zdI x) :: st) M bc bs Q := by
  subst hq
  refine zr_st (fun _ h => z_okc zok_4 (z_ok2 h).2.2) (fun _ h C p l e s m args below meth cc H locs cells slots lsA Z hx hb hl k => ?_) kk
  rw [List.map_cons] at k
  rw [List.map_cons, List.map_cons]
  unfold zdD at k
  unfold zdI
  rw [zc_d] at k
  rw [zc_d, zc_d]
  exact lv_ddiv hx hb hd (zf_div64 x0 x1 y0 y1) k
theorem zr_f2d {x y : Int} (x0 : 0 ≤ x) (x1 : x < 2048) (y0 : 0 < y) (y1 : y < 2048) (hd : decode Y.2.1 pc = .ok (.f2d, 1)) (hq : pc + 1 = q) (kk : z_Ex Y S q ls ((4, zfE x y) :: st) M bc bs Q) : z_Ex Y S pc ls ((3, zfD x y) :: st) M bc bs Q := by
  subst hq
  refine zr_st (fun _ h => z_okc zok_4 (z_ok1 h).2) (fun _ h C p l e s m args below meth cc H locs cells slots lsA Z hx hb hl k => ?_) kk
  rw [List.map_cons] at k
  rw [List.map_cons]
  unfold zfE at k
  unfold zfD
  rw [zc_d] at k
  rw [zc_f]
  exact lv_f2d hx hb hd (zf_f2d (zf_div32 x0 x1 y0 y1)) k
theorem zr_fconst (hd : decode Y.2.1 pc = .ok (.fconst 0, 1)) (hq : pc + 1 = q) (kk : z_Ex Y S q ls ((3, 0) :: st) M bc bs Q) : z_Ex Y S pc ls st M bc bs Q := by
  subst hq
  refine zr_st (fun _ h => z_okc zok_3 h) (fun _ h C p l e s m args below meth cc H locs cells slots lsA Z hx hb hl k => ?_) kk
  exact lv_fconst0 hx hb hd k
theorem zr_dconst (hd : decode Y.2.1 pc = .ok (.dconst 0, 1)) (hq : pc + 1 = q) (kk : z_Ex Y S q ls ((4, 0) :: st) M bc bs Q) : z_Ex Y S pc ls st M bc bs Q := by
  subst hq
  refine zr_st (fun _ h => z_okc zok_4 h) (fun _ h C p l e s m args below meth cc H locs cells slots lsA Z hx hb hl k => ?_) kk
  exact lv_dconst0 hx hb hd k
end ZFL
