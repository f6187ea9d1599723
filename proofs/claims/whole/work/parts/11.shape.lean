/-! ===== the heap as it stands behind the constructors ===== -/
def zKa (o : Int) : Nat × Nat := if o = 0 then (0, 0) else if o = 1 then (11, 8) else if o = 2 then (10, 8) else if o = 3 then (16, 20) else if o % 2 = 0 then (1, 0) else (10, 5)
def zKb (z : Int) : Nat × Nat :=
  if z = 506 then (4, 0) else if z = 507 then (10, 20) else if z = 508 then (6, 0) else if z = 509 then (10, 8) else if z = 510 then (10, 8) else if z = 511 then (7, 0) else if z = 512 then (12, 60) else if z = 513 then (5, 0) else if z = 514 then (7, 0) else if z = 515 then (12, 60) else if z = 516 then (10, 30)
  else if z = 517 then (9, 0) else if z = 518 then (10, 160) else if z = 519 then (10, 1280) else if z = 520 then (10, 160) else if z = 521 then (10, 160) else if z = 522 then (10, 60) else if z = 523 then (12, 60) else if z = 524 then (10, 64) else if z = 525 then (10, 8) else if z = 526 then (10, 8) else if z = 527 then (11, 8) else if z = 528 then (10, 155) else if z = 529 then (13, 1) else (14, 1)
/-- kind and length of each object: 1 the class, 2, 46, 90 and 136 + 44 k the assemblies, 134 the history, 488 the count, 490 + 2 k its rounds, 506 the piles, 510 scores, 511 line, 513 reader, 514 its text, 517 the reference and its rows, 529 and 530 the law's -/
def zK (z : Int) : Nat × Nat :=
  if z = 1 then (8, 0) else if z < 134 then zKa ((z - 2) % 44) else if z = 134 then (3, 0) else if z = 135 then (15, 8) else if z < 488 then zKa ((z - 136) % 44) else if z = 488 then (2, 0) else if z = 489 then (17, 8) else if z < 506 then (if z % 2 = 0 then (6, 0) else (10, 8)) else zKb z
def zF : zS := (false, 530, zK)
/-- an object of class kind c; an array of kind kd, length n -/
def zO (z : Int) (c : Nat) : Prop := 0 < z ∧ z ≤ 530 ∧ (zK z).1 = c
def zR (z : Int) (kd n : Nat) : Prop := 0 < z ∧ z ≤ 530 ∧ zK z = (kd, n)
theorem zF_n : ((zF.2.1 : Nat) : Int) = 530 := rfl
theorem z_no {k : Int} {t : Nat} {x : Int} (h : ((8 : Nat), k) = (t, x)) (ht : Nat.beq 8 t = false) : False := by
  have h1 := congrArg Prod.fst h
  dsimp only at h1
  subst h1
  cases ht
theorem z_fit_c {x : Int} (h0 : 0 ≤ x) (h1 : x < 65536) : z_fit .char (0, x) := by
  intro C
  obtain ⟨n, rfl⟩ := Int.eq_ofNat_of_zero_le h0
  have e := pk_charN (q := n) (by omega)
  show narrow .char (.int (Int32.ofInt (n : Int))) = .int (Int32.ofInt (n : Int)) ∧ fits .char (.int (Int32.ofInt (n : Int))) = true
  rw [Int32.ofInt_eq_ofNat]
  exact e
abbrev zpF (t : Nat) (x : Int) (M : zM) : zV → zS → zM → Prop := fun r S' M' => r = (t, x) ∧ S' = zF ∧ M' = M
/-- an assembly's base -/
def zAs (a : Int) : Prop := a = 2 ∨ a = 46 ∨ a = 90 ∨ (136 ≤ a ∧ a < 488 ∧ (a - 136) % 44 = 0)
theorem zAs_k {a : Int} (h : zAs a) : ∀ o, 0 ≤ o → o < 44 → 0 < a + o ∧ a + o ≤ 530 ∧ zK (a + o) = zKa o := by
  intro o h0 h1
  unfold zAs at h
  unfold zK
  rcases h with rfl | rfl | rfl | ⟨h2, h3, h4⟩
  · refine ⟨by omega, by omega, ?_⟩
    rw [if_neg (by omega), if_pos (by omega), show (2 + o - 2) % 44 = o by omega]
  · refine ⟨by omega, by omega, ?_⟩
    rw [if_neg (by omega), if_pos (by omega), show (46 + o - 2) % 44 = o by omega]
  · refine ⟨by omega, by omega, ?_⟩
    rw [if_neg (by omega), if_pos (by omega), show (90 + o - 2) % 44 = o by omega]
  · refine ⟨by omega, by omega, ?_⟩
    rw [if_neg (by omega), if_neg (by omega), if_neg (by omega), if_neg (by omega), if_pos (by omega), show (a + o - 136) % 44 = o by omega]
theorem zAs_0 {a : Int} (h : zAs a) : zO a 0 := by
  obtain ⟨h1, h2, h3⟩ := zAs_k h 0 (by omega) (by omega)
  rw [Int.add_zero] at h1 h2 h3
  exact ⟨h1, h2, by rw [h3]; rfl⟩
theorem zAs_1 {a : Int} (h : zAs a) : zR (a + 1) 11 8 := zAs_k h 1 (by omega) (by omega)
theorem zAs_2 {a : Int} (h : zAs a) : zR (a + 2) 10 8 := zAs_k h 2 (by omega) (by omega)
theorem zAs_3 {a : Int} (h : zAs a) : zR (a + 3) 16 20 := zAs_k h 3 (by omega) (by omega)
/-- a ballot of the assembly at a -/
def zBl (a b : Int) : Prop := a + 4 ≤ b ∧ b < a + 44 ∧ (b - a) % 2 = 0
theorem zBl_0 {a b : Int} (h : zAs a) (hb : zBl a b) : zO b 1 := by
  obtain ⟨h1, h2, h3⟩ := hb
  obtain ⟨g1, g2, g3⟩ := zAs_k h (b - a) (by omega) (by omega)
  rw [show a + (b - a) = b by omega] at g1 g2 g3
  refine ⟨g1, g2, ?_⟩
  rw [g3]
  unfold zKa
  rw [if_neg (by omega), if_neg (by omega), if_neg (by omega), if_neg (by omega), if_pos h3]
theorem zBl_1 {a b : Int} (h : zAs a) (hb : zBl a b) : zR (b + 1) 10 5 := by
  obtain ⟨h1, h2, h3⟩ := hb
  obtain ⟨g1, g2, g3⟩ := zAs_k h (b + 1 - a) (by omega) (by omega)
  rw [show a + (b + 1 - a) = b + 1 by omega] at g1 g2 g3
  refine ⟨g1, g2, ?_⟩
  rw [g3]
  unfold zKa
  rw [if_neg (by omega), if_neg (by omega), if_neg (by omega), if_neg (by omega), if_neg (by omega)]
/-- a round: 490 + 2 k, k < 8, or the piles' one, 508 -/
def zRo (r : Int) : Prop := (490 ≤ r ∧ r < 506 ∧ r % 2 = 0) ∨ r = 508
theorem zRo_0 {r : Int} (h : zRo r) : zO r 6 := by
  rcases h with ⟨h1, h2, h3⟩ | rfl
  · refine ⟨by omega, by omega, ?_⟩
    unfold zK
    rw [if_neg (by omega), if_neg (by omega), if_neg (by omega), if_neg (by omega), if_neg (by omega), if_neg (by omega), if_neg (by omega), if_pos (by omega), if_pos h3]
  · exact ⟨by decide, by decide, by decide +kernel⟩
theorem zRo_1 {r : Int} (h : zRo r) : zR (r + 1) 10 8 := by
  rcases h with ⟨h1, h2, h3⟩ | rfl
  · refine ⟨by omega, by omega, ?_⟩
    unfold zK
    rw [if_neg (by omega), if_neg (by omega), if_neg (by omega), if_neg (by omega), if_neg (by omega), if_neg (by omega), if_neg (by omega), if_pos (by omega), if_neg (by omega)]
  · exact ⟨by decide, by decide, by decide +kernel⟩
section ZG
variable {Y : zY} {pc q : Nat} {ls st : List zV} {M : zM} {bc bs : Nat} {Q : zV → zS → zM → Prop}
theorem zf_getf {own : String} {idx c k t : Nat} {z v : Int} (O : zO z c) (hv : M z k = v) (F : z_Fld own idx c k t) (hd : decode Y.2.1 pc = .ok (.getfield idx, 3)) (ho : Y.1.cls = own) (hq : pc + 3 = q) (kk : z_Ex Y zF q ls ((t, v) :: st) M bc bs Q) : z_Ex Y zF pc ls ((1, z) :: st) M bc bs Q := zp_getf hv F hd ho hq O.1 O.2.1 O.2.2 kk
theorem zf_putf {own : String} {idx c k t : Nat} {ty : FieldType} {z x : Int} (O : zO z c) (F : z_FldP own idx c k t ty) (hd : decode Y.2.1 pc = .ok (.putfield idx, 3)) (ho : Y.1.cls = own) (hq : pc + 3 = q) (ht : t ≤ 2) (hfit : z_fit ty (t, x)) (kk : z_Ex Y zF q ls st (z_up M z k x) bc bs Q) : z_Ex Y zF pc ls ((t, x) :: (1, z) :: st) M bc bs Q := zr_putf F hd ho hq O.1 O.2.1 O.2.2 ht hfit kk
theorem zf_iald {z i v : Int} {n : Nat} (O : zR z 10 n) (hv : M z i = v) (hd : decode Y.2.1 pc = .ok (.iaload, 1)) (hq : pc + 1 = q) (h0 : 0 ≤ i) (h1 : i < n) (kk : z_Ex Y zF q ls ((0, v) :: st) M bc bs Q) : z_Ex Y zF pc ls ((0, i) :: (1, z) :: st) M bc bs Q := zp_iald hv hd hq O.1 O.2.1 O.2.2 h0 h1 kk
theorem zf_zald {z i v : Int} {n : Nat} (O : zR z 11 n) (hv : M z i = v) (hd : decode Y.2.1 pc = .ok (.baload, 1)) (hq : pc + 1 = q) (h0 : 0 ≤ i) (h1 : i < n) (kk : z_Ex Y zF q ls ((0, v) :: st) M bc bs Q) : z_Ex Y zF pc ls ((0, i) :: (1, z) :: st) M bc bs Q := zp_zald hv hd hq O.1 O.2.1 O.2.2 h0 h1 kk
theorem zf_cald {z i v : Int} {n : Nat} (O : zR z 12 n) (hv : M z i = v) (hd : decode Y.2.1 pc = .ok (.caload, 1)) (hq : pc + 1 = q) (h0 : 0 ≤ i) (h1 : i < n) (kk : z_Ex Y zF q ls ((0, v) :: st) M bc bs Q) : z_Ex Y zF pc ls ((0, i) :: (1, z) :: st) M bc bs Q := zp_cald hv hd hq O.1 O.2.1 O.2.2 h0 h1 kk
theorem zf_aald {z i v : Int} {kd n : Nat} (O : zR z kd n) (hv : M z i = v) (hkd : kd = 15 ∨ kd = 16 ∨ kd = 17) (hd : decode Y.2.1 pc = .ok (.aaload, 1)) (hq : pc + 1 = q) (h0 : 0 ≤ i) (h1 : i < n) (kk : z_Ex Y zF q ls ((1, v) :: st) M bc bs Q) : z_Ex Y zF pc ls ((0, i) :: (1, z) :: st) M bc bs Q := zp_aald hv hkd hd hq O.1 O.2.1 O.2.2 h0 h1 kk
theorem zf_iast {z i x : Int} {n : Nat} (O : zR z 10 n) (hd : decode Y.2.1 pc = .ok (.iastore, 1)) (hq : pc + 1 = q) (h0 : 0 ≤ i) (h1 : i < n) (kk : z_Ex Y zF q ls st (z_up M z i x) bc bs Q) : z_Ex Y zF pc ls ((0, x) :: (0, i) :: (1, z) :: st) M bc bs Q := zr_iast hd hq O.1 O.2.1 O.2.2 h0 h1 rfl kk
theorem zf_zast {z i x : Int} {n : Nat} (O : zR z 11 n) (hd : decode Y.2.1 pc = .ok (.bastore, 1)) (hq : pc + 1 = q) (h0 : 0 ≤ i) (h1 : i < n) (hx : x = 0 ∨ x = 1) (kk : z_Ex Y zF q ls st (z_up M z i x) bc bs Q) : z_Ex Y zF pc ls ((0, x) :: (0, i) :: (1, z) :: st) M bc bs Q := zr_zast hd hq O.1 O.2.1 O.2.2 h0 h1 rfl hx kk
theorem zf_cast {z i x : Int} {n : Nat} (O : zR z 12 n) (hd : decode Y.2.1 pc = .ok (.castore, 1)) (hq : pc + 1 = q) (h0 : 0 ≤ i) (h1 : i < n) (hx0 : 0 ≤ x) (hx1 : x < 65536) (kk : z_Ex Y zF q ls st (z_up M z i x) bc bs Q) : z_Ex Y zF pc ls ((0, x) :: (0, i) :: (1, z) :: st) M bc bs Q := zr_cast hd hq O.1 O.2.1 O.2.2 h0 h1 rfl hx0 hx1 kk
theorem zf_aast {z i x : Int} {kd n c : Nat} (hkd : (kd = 15 ∧ c = 0) ∨ (kd = 16 ∧ c = 1) ∨ (kd = 17 ∧ c = 6)) (O : zR z kd n) (Ox : zO x c) (hd : decode Y.2.1 pc = .ok (.aastore, 1)) (hq : pc + 1 = q) (h0 : 0 ≤ i) (h1 : i < n) (kk : z_Ex Y zF q ls st (z_up M z i x) bc bs Q) : z_Ex Y zF pc ls ((1, x) :: (0, i) :: (1, z) :: st) M bc bs Q := zr_aast hkd hd hq O.1 O.2.1 O.2.2 h0 h1 Ox.1 Ox.2.1 Ox.2.2 kk
theorem zf_callV0 {Y' : zY} {P : zV → zS → zM → Prop} {z : Int} {idx c : Nat} (O : zO z c) (hc : z_Call Y' zF ((1, z) :: []) M P) (hY : z_Mth Y' 0) (hi : Cond.instanceMethod Y'.1 ∈ z_all) (hsel : Cond.selects Y'.1.cls Y'.1 Y'.1 ∈ z_all) (hl9 : Cond.methodLink Y.1.cls idx Y'.1 ∈ z_all)
    (hd : decode Y.2.1 pc = .ok (.invokevirtual idx, 3)) (hq : pc + 3 = q) (hrm : (Nat.ble (Y'.2.2.2.2.1.1 + 1) Y.2.2.2.2.1.1 && Nat.ble (8 + (Y'.2.2.1 + 11) + Y'.2.2.2.2.1.2) Y.2.2.2.2.1.2 && Y.2.2.2.2.2.2.2.1.isEmpty) = true) (hc10 : Nat.ble (c + 1) 10 = true) (hcls : z_cl[c]?.map (fun r => r.1) = some Y'.1.cls) (hst : z_one st = true) (hsl : Nat.ble st.length 8 = true) (hmc : (Nat.ble Y'.2.2.2.2.2.1 bc && Nat.ble Y'.2.2.2.2.2.2.1 bs) = true)
    (kn : ∀ r S' M', r.1 ≠ 8 → P r S' M' → z_Ex Y S' q ls (z_ps r st) M' (bc - Y'.2.2.2.2.2.1) (bs - Y'.2.2.2.2.2.2.1) Q) (kx : ∀ k S' M', P (8, k) S' M' → Q (8, k) S' M') : z_Ex Y zF pc ls ((1, z) :: st) M bc bs Q :=
  zp_callV0 hc hY hi hsel hl9 hd hq hrm O.1 O.2.1 O.2.2 hc10 hcls hst hsl hmc kn kx
theorem zf_callV1 {Y' : zY} {P : zV → zS → zM → Prop} {b0 : zV} {z : Int} {idx c : Nat} (O : zO z c) (hc : z_Call Y' zF ((1, z) :: [b0]) M P) (hY : z_Mth Y' 1) (hi : Cond.instanceMethod Y'.1 ∈ z_all) (hsel : Cond.selects Y'.1.cls Y'.1 Y'.1 ∈ z_all) (hl9 : Cond.methodLink Y.1.cls idx Y'.1 ∈ z_all)
    (hd : decode Y.2.1 pc = .ok (.invokevirtual idx, 3)) (hq : pc + 3 = q) (hrm : (Nat.ble (Y'.2.2.2.2.1.1 + 1) Y.2.2.2.2.1.1 && Nat.ble (8 + (Y'.2.2.1 + 11) + Y'.2.2.2.2.1.2) Y.2.2.2.2.1.2 && Y.2.2.2.2.2.2.2.1.isEmpty) = true) (hc10 : Nat.ble (c + 1) 10 = true) (hcls : z_cl[c]?.map (fun r => r.1) = some Y'.1.cls) (hst : z_one st = true) (hsl : Nat.ble st.length 8 = true) (hmc : (Nat.ble Y'.2.2.2.2.2.1 bc && Nat.ble Y'.2.2.2.2.2.2.1 bs) = true)
    (kn : ∀ r S' M', r.1 ≠ 8 → P r S' M' → z_Ex Y S' q ls (z_ps r st) M' (bc - Y'.2.2.2.2.2.1) (bs - Y'.2.2.2.2.2.2.1) Q) (kx : ∀ k S' M', P (8, k) S' M' → Q (8, k) S' M') : z_Ex Y zF pc ls (b0 :: (1, z) :: st) M bc bs Q :=
  zp_callV1 hc hY hi hsel hl9 hd hq hrm O.1 O.2.1 O.2.2 hc10 hcls hst hsl hmc kn kx
theorem zf_callV2 {Y' : zY} {P : zV → zS → zM → Prop} {b0 b1 : zV} {z : Int} {idx c : Nat} (O : zO z c) (hc : z_Call Y' zF ((1, z) :: [b0, b1]) M P) (hY : z_Mth Y' 2) (hi : Cond.instanceMethod Y'.1 ∈ z_all) (hsel : Cond.selects Y'.1.cls Y'.1 Y'.1 ∈ z_all) (hl9 : Cond.methodLink Y.1.cls idx Y'.1 ∈ z_all)
    (hd : decode Y.2.1 pc = .ok (.invokevirtual idx, 3)) (hq : pc + 3 = q) (hrm : (Nat.ble (Y'.2.2.2.2.1.1 + 1) Y.2.2.2.2.1.1 && Nat.ble (8 + (Y'.2.2.1 + 11) + Y'.2.2.2.2.1.2) Y.2.2.2.2.1.2 && Y.2.2.2.2.2.2.2.1.isEmpty) = true) (hc10 : Nat.ble (c + 1) 10 = true) (hcls : z_cl[c]?.map (fun r => r.1) = some Y'.1.cls) (hst : z_one st = true) (hsl : Nat.ble st.length 8 = true) (hmc : (Nat.ble Y'.2.2.2.2.2.1 bc && Nat.ble Y'.2.2.2.2.2.2.1 bs) = true)
    (kn : ∀ r S' M', r.1 ≠ 8 → P r S' M' → z_Ex Y S' q ls (z_ps r st) M' (bc - Y'.2.2.2.2.2.1) (bs - Y'.2.2.2.2.2.2.1) Q) (kx : ∀ k S' M', P (8, k) S' M' → Q (8, k) S' M') : z_Ex Y zF pc ls (b1 :: b0 :: (1, z) :: st) M bc bs Q :=
  zp_callV2 hc hY hi hsel hl9 hd hq hrm O.1 O.2.1 O.2.2 hc10 hcls hst hsl hmc kn kx
theorem zf_callV3 {Y' : zY} {P : zV → zS → zM → Prop} {b0 b1 b2 : zV} {z : Int} {idx c : Nat} (O : zO z c) (hc : z_Call Y' zF ((1, z) :: [b0, b1, b2]) M P) (hY : z_Mth Y' 3) (hi : Cond.instanceMethod Y'.1 ∈ z_all) (hsel : Cond.selects Y'.1.cls Y'.1 Y'.1 ∈ z_all) (hl9 : Cond.methodLink Y.1.cls idx Y'.1 ∈ z_all)
    (hd : decode Y.2.1 pc = .ok (.invokevirtual idx, 3)) (hq : pc + 3 = q) (hrm : (Nat.ble (Y'.2.2.2.2.1.1 + 1) Y.2.2.2.2.1.1 && Nat.ble (8 + (Y'.2.2.1 + 11) + Y'.2.2.2.2.1.2) Y.2.2.2.2.1.2 && Y.2.2.2.2.2.2.2.1.isEmpty) = true) (hc10 : Nat.ble (c + 1) 10 = true) (hcls : z_cl[c]?.map (fun r => r.1) = some Y'.1.cls) (hst : z_one st = true) (hsl : Nat.ble st.length 8 = true) (hmc : (Nat.ble Y'.2.2.2.2.2.1 bc && Nat.ble Y'.2.2.2.2.2.2.1 bs) = true)
    (kn : ∀ r S' M', r.1 ≠ 8 → P r S' M' → z_Ex Y S' q ls (z_ps r st) M' (bc - Y'.2.2.2.2.2.1) (bs - Y'.2.2.2.2.2.2.1) Q) (kx : ∀ k S' M', P (8, k) S' M' → Q (8, k) S' M') : z_Ex Y zF pc ls (b2 :: b1 :: b0 :: (1, z) :: st) M bc bs Q :=
  zp_callV3 hc hY hi hsel hl9 hd hq hrm O.1 O.2.1 O.2.2 hc10 hcls hst hsl hmc kn kx
theorem zf_callV4 {Y' : zY} {P : zV → zS → zM → Prop} {b0 b1 b2 b3 : zV} {z : Int} {idx c : Nat} (O : zO z c) (hc : z_Call Y' zF ((1, z) :: [b0, b1, b2, b3]) M P) (hY : z_Mth Y' 4) (hi : Cond.instanceMethod Y'.1 ∈ z_all) (hsel : Cond.selects Y'.1.cls Y'.1 Y'.1 ∈ z_all) (hl9 : Cond.methodLink Y.1.cls idx Y'.1 ∈ z_all)
    (hd : decode Y.2.1 pc = .ok (.invokevirtual idx, 3)) (hq : pc + 3 = q) (hrm : (Nat.ble (Y'.2.2.2.2.1.1 + 1) Y.2.2.2.2.1.1 && Nat.ble (8 + (Y'.2.2.1 + 11) + Y'.2.2.2.2.1.2) Y.2.2.2.2.1.2 && Y.2.2.2.2.2.2.2.1.isEmpty) = true) (hc10 : Nat.ble (c + 1) 10 = true) (hcls : z_cl[c]?.map (fun r => r.1) = some Y'.1.cls) (hst : z_one st = true) (hsl : Nat.ble st.length 8 = true) (hmc : (Nat.ble Y'.2.2.2.2.2.1 bc && Nat.ble Y'.2.2.2.2.2.2.1 bs) = true)
    (kn : ∀ r S' M', r.1 ≠ 8 → P r S' M' → z_Ex Y S' q ls (z_ps r st) M' (bc - Y'.2.2.2.2.2.1) (bs - Y'.2.2.2.2.2.2.1) Q) (kx : ∀ k S' M', P (8, k) S' M' → Q (8, k) S' M') : z_Ex Y zF pc ls (b3 :: b2 :: b1 :: b0 :: (1, z) :: st) M bc bs Q :=
  zp_callV4 hc hY hi hsel hl9 hd hq hrm O.1 O.2.1 O.2.2 hc10 hcls hst hsl hmc kn kx
theorem zp_callSN0 {S : zS} {Y' : zY} {P : zV → zS → zM → Prop} {idx : Nat} {host : String} (hc : z_Call Y' S [] M P) (hno : ∀ k S M, ¬ P (8, k) S M) (hY : z_Mth Y' 0) (hi : Cond.static Y'.1 ∈ z_all) (hl9 : Cond.methodLinkNest Y.1.cls idx Y'.1 host ∈ lw_tbl)
    (hd : decode Y.2.1 pc = .ok (.invokestatic idx, 3)) (hq : pc + 3 = q) (hrm : (Nat.ble (Y'.2.2.2.2.1.1 + 1) Y.2.2.2.2.1.1 && Nat.ble (8 + (Y'.2.2.1 + 11) + Y'.2.2.2.2.1.2) Y.2.2.2.2.1.2 && Y.2.2.2.2.2.2.2.1.isEmpty) = true) (hst : z_one st = true) (hsl : Nat.ble st.length 8 = true) (hmc : (Nat.ble Y'.2.2.2.2.2.1 bc && Nat.ble Y'.2.2.2.2.2.2.1 bs) = true)
    (kn : ∀ r S' M', r.1 ≠ 8 → P r S' M' → z_Ex Y S' q ls (z_ps r st) M' (bc - Y'.2.2.2.2.2.1) (bs - Y'.2.2.2.2.2.2.1) Q) : z_Ex Y S pc ls (st) M bc bs Q := by
  simp only [Bool.and_eq_true] at hrm hmc
  exact zr_callSN (as := []) hc hno hY hi hl9 hd hq rfl ⟨Nat.le_of_ble_eq_true hrm.1.1, Nat.le_of_ble_eq_true hrm.1.2, List.isEmpty_iff.mp hrm.2⟩ hst (Nat.le_of_ble_eq_true hsl) (Nat.le_of_ble_eq_true hmc.1) (Nat.le_of_ble_eq_true hmc.2) kn
theorem zp_callSN1 {S : zS} {Y' : zY} {P : zV → zS → zM → Prop} {b0 : zV} {idx : Nat} {host : String} (hc : z_Call Y' S [b0] M P) (hno : ∀ k S M, ¬ P (8, k) S M) (hY : z_Mth Y' 1) (hi : Cond.static Y'.1 ∈ z_all) (hl9 : Cond.methodLinkNest Y.1.cls idx Y'.1 host ∈ lw_tbl)
    (hd : decode Y.2.1 pc = .ok (.invokestatic idx, 3)) (hq : pc + 3 = q) (hrm : (Nat.ble (Y'.2.2.2.2.1.1 + 1) Y.2.2.2.2.1.1 && Nat.ble (8 + (Y'.2.2.1 + 11) + Y'.2.2.2.2.1.2) Y.2.2.2.2.1.2 && Y.2.2.2.2.2.2.2.1.isEmpty) = true) (hst : z_one st = true) (hsl : Nat.ble st.length 8 = true) (hmc : (Nat.ble Y'.2.2.2.2.2.1 bc && Nat.ble Y'.2.2.2.2.2.2.1 bs) = true)
    (kn : ∀ r S' M', r.1 ≠ 8 → P r S' M' → z_Ex Y S' q ls (z_ps r st) M' (bc - Y'.2.2.2.2.2.1) (bs - Y'.2.2.2.2.2.2.1) Q) : z_Ex Y S pc ls (b0 :: st) M bc bs Q := by
  simp only [Bool.and_eq_true] at hrm hmc
  exact zr_callSN (as := [b0]) hc hno hY hi hl9 hd hq rfl ⟨Nat.le_of_ble_eq_true hrm.1.1, Nat.le_of_ble_eq_true hrm.1.2, List.isEmpty_iff.mp hrm.2⟩ hst (Nat.le_of_ble_eq_true hsl) (Nat.le_of_ble_eq_true hmc.1) (Nat.le_of_ble_eq_true hmc.2) kn
theorem zr_i2c {S : zS} {x : Int} (hd : decode Y.2.1 pc = .ok (.i2c, 1)) (hq : pc + 1 = q) (kk : z_Ex Y S q ls ((0, x % 65536) :: st) M bc bs Q) : z_Ex Y S pc ls ((0, x) :: st) M bc bs Q := by
  subst hq
  refine zr_st (fun _ h => z_okc (z_iok ⟨by omega, by omega⟩) (z_ok1 h).2) (fun _ h C p l e s m args below meth c H locs cells slots lsA Z hx hb hl k => lv_i2c hx hb hd ?_ k) kk
  have hX := z_oki (z_ok1 h).1
  rw [pk_char]
  have e : ((Int32.ofInt x).toBitVec.toNat : Int) = x % 4294967296 := by
    rw [Int32.toBitVec_ofInt, BitVec.toNat_ofInt]
    omega
  have e2 : (((Int32.ofInt x).toBitVec.toNat % 65536 : Nat) : Int) = x % 65536 := by
    rw [Int.natCast_emod, e]
    omega
  unfold nI
  rw [← Int32.ofInt_eq_ofNat, e2]
end ZG
