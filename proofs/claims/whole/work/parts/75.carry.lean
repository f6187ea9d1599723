/-! dep: 70 71 72 73 74 -/
/-! ===== carrying a command out: what it does to a row; the class ===== -/
def zn1 (c : Int → Int) (p : Int) : Int := zNv c (zq1 c p + 1) (zD1 (zWw c p))
def zn2 (c : Int → Int) (p : Int) : Int := zNv c (zq2 c p + 1) (zD2 (zWw c p))
def znw (c : Int → Int) (p j : Int) : Int := c (zq3 c p + 2 * j + 1) - 48
/-- may b rank w -/
def zRo9 (G : Int → Int) (b w : Int) : Prop := (0 ≤ b ∧ b < G 1) ∧ (0 ≤ w ∧ w < G 0) ∧ zPl G b w = -1 ∧ G (20 + 7 * b + 1) < 5
/-- a new ballot and its further winds -/
def zB9 (G : Int → Int) (x f : Int) (W : Int → Int) : Nat → Int → Int
  | 0 => gBal G x f
  | k + 1 => gRank (zB9 G x f W k) (G 1) (W k)
def zBs (G : Int → Int) (x f : Int) : Prop := (0 ≤ f ∧ f < G 0) ∧ (1 ≤ x ∧ x ≤ 99) ∧ G 1 < 20
def zBo (G : Int → Int) (x f : Int) (W : Int → Int) (n : Nat) : Prop := zBs G x f ∧ ∀ j : Nat, j < n → zRo9 (zB9 G x f W j) (G 1) (W j)
/-- can the command be carried out -/
def zXo9 (G c : Int → Int) (p : Int) : Prop := if zWw c p = 0 then G 0 < 8 else if zWw c p = 1 then (0 ≤ zn1 c p ∧ zn1 c p < G 0 ∧ G (4 + zn1 c p) = 0) else if zWw c p = 2 then zBo G (zn1 c p) (zn2 c p) (znw c p) (zFw9 c (zq3 c p)).toNat else if zWw c p = 3 then zRo9 G (zn1 c p) (zn2 c p) else if zWw c p = 4 then (0 ≤ zn1 c p ∧ zn1 c p < G 1) else if zWw c p = 5 then ((0 ≤ zn1 c p ∧ zn1 c p < G 1) ∧ (1 ≤ zn2 c p ∧ zn2 c p ≤ 99)) else if zWw c p = 6 then True else zSt G ≠ 0
/-- the row behind it -/
def gX9 (G c : Int → Int) (p : Int) : Int → Int := if zWw c p = 0 then gAdd G else if zWw c p = 1 then gGo G (zn1 c p) else if zWw c p = 2 then zB9 G (zn1 c p) (zn2 c p) (znw c p) (zFw9 c (zq3 c p)).toNat else if zWw c p = 3 then gRank G (zn1 c p) (zn2 c p) else if zWw c p = 4 then gRem G (zn1 c p) else if zWw c p = 5 then gRec G (zn1 c p) (zn2 c p) else if zWw c p = 6 then gSpin G ((5 * G 2 + 3) % 16) else gCert G
section ZX9
variable {M : zM} {G : Int → Int} {c : Int → Int} {p : Int}
theorem zXo9_0 (h : zWw c p = 0) : zXo9 G c p = (G 0 < 8) := by
  unfold zXo9
  rw [if_pos h]
theorem gX9_0 (h : zWw c p = 0) : gX9 G c p = gAdd G := by
  unfold gX9
  rw [if_pos h]
theorem zXo9_1 (h : zWw c p = 1) : zXo9 G c p = ((0 ≤ zn1 c p ∧ zn1 c p < G 0 ∧ G (4 + zn1 c p) = 0)) := by
  unfold zXo9
  rw [if_neg (show ¬ zWw c p = 0 by omega), if_pos h]
theorem gX9_1 (h : zWw c p = 1) : gX9 G c p = gGo G (zn1 c p) := by
  unfold gX9
  rw [if_neg (show ¬ zWw c p = 0 by omega), if_pos h]
theorem zXo9_2 (h : zWw c p = 2) : zXo9 G c p = (zBo G (zn1 c p) (zn2 c p) (znw c p) (zFw9 c (zq3 c p)).toNat) := by
  unfold zXo9
  rw [if_neg (show ¬ zWw c p = 0 by omega), if_neg (show ¬ zWw c p = 1 by omega), if_pos h]
theorem gX9_2 (h : zWw c p = 2) : gX9 G c p = zB9 G (zn1 c p) (zn2 c p) (znw c p) (zFw9 c (zq3 c p)).toNat := by
  unfold gX9
  rw [if_neg (show ¬ zWw c p = 0 by omega), if_neg (show ¬ zWw c p = 1 by omega), if_pos h]
theorem zXo9_3 (h : zWw c p = 3) : zXo9 G c p = (zRo9 G (zn1 c p) (zn2 c p)) := by
  unfold zXo9
  rw [if_neg (show ¬ zWw c p = 0 by omega), if_neg (show ¬ zWw c p = 1 by omega), if_neg (show ¬ zWw c p = 2 by omega), if_pos h]
theorem gX9_3 (h : zWw c p = 3) : gX9 G c p = gRank G (zn1 c p) (zn2 c p) := by
  unfold gX9
  rw [if_neg (show ¬ zWw c p = 0 by omega), if_neg (show ¬ zWw c p = 1 by omega), if_neg (show ¬ zWw c p = 2 by omega), if_pos h]
theorem zXo9_4 (h : zWw c p = 4) : zXo9 G c p = ((0 ≤ zn1 c p ∧ zn1 c p < G 1)) := by
  unfold zXo9
  rw [if_neg (show ¬ zWw c p = 0 by omega), if_neg (show ¬ zWw c p = 1 by omega), if_neg (show ¬ zWw c p = 2 by omega), if_neg (show ¬ zWw c p = 3 by omega), if_pos h]
theorem gX9_4 (h : zWw c p = 4) : gX9 G c p = gRem G (zn1 c p) := by
  unfold gX9
  rw [if_neg (show ¬ zWw c p = 0 by omega), if_neg (show ¬ zWw c p = 1 by omega), if_neg (show ¬ zWw c p = 2 by omega), if_neg (show ¬ zWw c p = 3 by omega), if_pos h]
theorem zXo9_5 (h : zWw c p = 5) : zXo9 G c p = (((0 ≤ zn1 c p ∧ zn1 c p < G 1) ∧ (1 ≤ zn2 c p ∧ zn2 c p ≤ 99))) := by
  unfold zXo9
  rw [if_neg (show ¬ zWw c p = 0 by omega), if_neg (show ¬ zWw c p = 1 by omega), if_neg (show ¬ zWw c p = 2 by omega), if_neg (show ¬ zWw c p = 3 by omega), if_neg (show ¬ zWw c p = 4 by omega), if_pos h]
theorem gX9_5 (h : zWw c p = 5) : gX9 G c p = gRec G (zn1 c p) (zn2 c p) := by
  unfold gX9
  rw [if_neg (show ¬ zWw c p = 0 by omega), if_neg (show ¬ zWw c p = 1 by omega), if_neg (show ¬ zWw c p = 2 by omega), if_neg (show ¬ zWw c p = 3 by omega), if_neg (show ¬ zWw c p = 4 by omega), if_pos h]
theorem zXo9_6 (h : zWw c p = 6) : zXo9 G c p = (True) := by
  unfold zXo9
  rw [if_neg (show ¬ zWw c p = 0 by omega), if_neg (show ¬ zWw c p = 1 by omega), if_neg (show ¬ zWw c p = 2 by omega), if_neg (show ¬ zWw c p = 3 by omega), if_neg (show ¬ zWw c p = 4 by omega), if_neg (show ¬ zWw c p = 5 by omega), if_pos h]
theorem gX9_6 (h : zWw c p = 6) : gX9 G c p = gSpin G ((5 * G 2 + 3) % 16) := by
  unfold gX9
  rw [if_neg (show ¬ zWw c p = 0 by omega), if_neg (show ¬ zWw c p = 1 by omega), if_neg (show ¬ zWw c p = 2 by omega), if_neg (show ¬ zWw c p = 3 by omega), if_neg (show ¬ zWw c p = 4 by omega), if_neg (show ¬ zWw c p = 5 by omega), if_pos h]
theorem zXo9_7 (h : zWw c p = 7) : zXo9 G c p = (zSt G ≠ 0) := by
  unfold zXo9
  rw [if_neg (show ¬ zWw c p = 0 by omega), if_neg (show ¬ zWw c p = 1 by omega), if_neg (show ¬ zWw c p = 2 by omega), if_neg (show ¬ zWw c p = 3 by omega), if_neg (show ¬ zWw c p = 4 by omega), if_neg (show ¬ zWw c p = 5 by omega), if_neg (show ¬ zWw c p = 6 by omega)]
theorem gX9_7 (h : zWw c p = 7) : gX9 G c p = gCert G := by
  unfold gX9
  rw [if_neg (show ¬ zWw c p = 0 by omega), if_neg (show ¬ zWw c p = 1 by omega), if_neg (show ¬ zWw c p = 2 by omega), if_neg (show ¬ zWw c p = 3 by omega), if_neg (show ¬ zWw c p = 4 by omega), if_neg (show ¬ zWw c p = 5 by omega), if_neg (show ¬ zWw c p = 6 by omega)]
theorem zB9_w {x f : Int} {W : Int → Int} (hG : zWF G) (h : zBs G x f) : ∀ n : Nat, (∀ j : Nat, j < n → zRo9 (zB9 G x f W j) (G 1) (W j)) → zWF (zB9 G x f W n) ∧ zB9 G x f W n 1 = G 1 + 1 := by
  intro n
  induction n with
  | zero => intro _; exact ⟨hG.ball h.2.2 h.2.1 h.1, rfl⟩
  | succ n ih =>
    intro hj
    obtain ⟨i1, i2⟩ := ih (fun j a => hj j (by omega))
    obtain ⟨r1, r2, r3, r4⟩ := hj n (by omega)
    refine ⟨i1.rank r1.1 r1.2 r4 r2, ?_⟩
    have hn := hG.n
    show gRank (zB9 G x f W n) (G 1) (W n) 1 = G 1 + 1
    have hz := i1.sz r1.1 r1.2
    unfold gRank zSet
    rw [if_neg (by omega), if_neg (by omega)]
    exact i2
theorem gX9_w (hG : zWF G) (hw : 0 ≤ zWw c p ∧ zWw c p < 8) (h : zXo9 G c p) : zWF (gX9 G c p) := by
  have h8 : zWw c p = 0 ∨ zWw c p = 1 ∨ zWw c p = 2 ∨ zWw c p = 3 ∨ zWw c p = 4 ∨ zWw c p = 5 ∨ zWw c p = 6 ∨ zWw c p = 7 := by omega
  rcases h8 with e | e | e | e | e | e | e | e
  · rw [zXo9_0 e] at h; rw [gX9_0 e]; exact hG.add h
  · rw [zXo9_1 e] at h; rw [gX9_1 e]; exact hG.go h.1 h.2.1 h.2.2
  · rw [zXo9_2 e] at h; rw [gX9_2 e]; exact (zB9_w hG h.1 _ h.2).1
  · rw [zXo9_3 e] at h; rw [gX9_3 e]; exact hG.rank h.1.1 h.1.2 h.2.2.2 h.2.1
  · rw [zXo9_4 e] at h; rw [gX9_4 e]; exact hG.rem h.1 h.2
  · rw [zXo9_5 e] at h; rw [gX9_5 e]; exact hG.rec h.1.1 h.1.2 h.2
  · rw [gX9_6 e]; exact hG.spin (by omega) (by omega)
  · rw [zXo9_7 e] at h; rw [gX9_7 e]; exact hG.cert h
/-- done, or a fault -/
abbrev zpX (cond : Prop) (G' : Int → Int) (M : zM) : zV → zS → zM → Prop := fun r S' M' => ∃ x, r = (1, x) ∧ S' = zF ∧ ((x = -1 ∧ cond ∧ zAR M' 2 G' ∧ ∀ z, z < 2 ∨ 46 ≤ z → M' z = M z) ∨ ((-10 ≤ x ∧ x ≤ -2) ∧ ¬ cond ∧ M' = M))
theorem zpX_y {Y : zY} {as : List zV} {cond : Prop} {G' : Int → Int} (h : cond) (hc : z_Call Y zF as M (zpA (1, -1) 2 G' M)) : z_Call Y zF as M (zpX cond G' M) := z_call_mono hc (fun _ _ _ hp => ⟨-1, hp.1, hp.2.1, Or.inl ⟨rfl, h, hp.2.2.1, hp.2.2.2⟩⟩)
theorem zpX_n {Y : zY} {as : List zV} {cond : Prop} {G' : Int → Int} {x : Int} (h : ¬ cond) (h1 : -10 ≤ x) (h2 : x ≤ -2) (hc : z_Call Y zF as M (zpF 1 x M)) : z_Call Y zF as M (zpX cond G' M) := z_call_mono hc (fun _ _ _ hp => ⟨x, hp.1, hp.2.1, Or.inr ⟨⟨h1, h2⟩, h, hp.2.2⟩⟩)
theorem s_X1_putWind_q (R : zAR M 2 G) (hG : zWF G) : z_Call mX1_putWind zF [(1, 2)] M (zpX (G 0 < 8) (gAdd G) M) := by
  by_cases h : G 0 < 8
  · exact zpX_y h (s_X1_putWind as2 R hG h)
  · exact zpX_n h (by decide) (by decide) (s_X1_putWind_x as2 R hG h)
theorem s_X1_letGo_q (R : zAR M 2 G) (hG : zWF G) {w : Int} : z_Call mX1_letGo zF [(1, 2), (0, w)] M (zpX (0 ≤ w ∧ w < G 0 ∧ G (4 + w) = 0) (gGo G w) M) := by
  by_cases h : 0 ≤ w ∧ w < G 0
  · by_cases h2 : G (4 + w) = 0
    · exact zpX_y ⟨h.1, h.2, h2⟩ (s_X1_letGo as2 R hG h.1 h.2 h2)
    · exact zpX_n (fun e => h2 e.2.2) (by decide) (by decide) (s_X1_letGo_y as2 R hG h.1 h.2 h2)
  · exact zpX_n (fun e => h ⟨e.1, e.2.1⟩) (by decide) (by decide) (s_X1_letGo_x as2 R hG h)
theorem s_X1_putBallot_q (R : zAR M 2 G) (hG : zWF G) {x f : Int} : z_Call mX1_putBallot zF [(1, 2), (0, x), (0, f)] M (zpX (zBs G x f) (gBal G x f) M) := by
  by_cases h : 0 ≤ f ∧ f < G 0
  · by_cases h2 : 1 ≤ x ∧ x ≤ 99
    · by_cases h3 : G 1 < 20
      · exact zpX_y ⟨h, h2, h3⟩ (s_X1_putBallot as2 R hG h3 h2 h)
      · exact zpX_n (fun e => h3 e.2.2) (by decide) (by decide) (s_X1_putBallot_z as2 R hG h h2 h3)
    · exact zpX_n (fun e => h2 e.2.1) (by decide) (by decide) (s_X1_putBallot_y as2 R hG h h2)
  · exact zpX_n (fun e => h e.1) (by decide) (by decide) (s_X1_putBallot_x as2 R hG h)
theorem s_X1_extendBallot_q (R : zAR M 2 G) (hG : zWF G) {b w : Int} : z_Call mX1_extendBallot zF [(1, 2), (0, b), (0, w)] M (zpX (zRo9 G b w) (gRank G b w) M) := by
  by_cases h : 0 ≤ b ∧ b < G 1
  · by_cases h2 : 0 ≤ w ∧ w < G 0
    · by_cases h3 : zPl G b w = -1
      · by_cases h4 : G (20 + 7 * b + 1) < 5
        · exact zpX_y ⟨h, h2, h3, h4⟩ (s_X1_extendBallot as2 R hG h.1 h.2 h2 h3 h4)
        · exact zpX_n (fun e => h4 e.2.2.2) (by decide) (by decide) (s_X1_extendBallot_u as2 R hG h h2 h3 h4)
      · exact zpX_n (fun e => h3 e.2.2.1) (by decide) (by decide) (s_X1_extendBallot_z as2 R hG h h2 h3)
    · exact zpX_n (fun e => h2 e.2.1) (by decide) (by decide) (s_X1_extendBallot_y as2 R hG h h2)
  · exact zpX_n (fun e => h e.1) (by decide) (by decide) (s_X1_extendBallot_x as2 R hG h)
theorem s_X1_dropBallot_q (R : zAR M 2 G) (hG : zWF G) {b : Int} : z_Call mX1_dropBallot zF [(1, 2), (0, b)] M (zpX (0 ≤ b ∧ b < G 1) (gRem G b) M) := by
  by_cases h : 0 ≤ b ∧ b < G 1
  · exact zpX_y h (s_X1_dropBallot as2 R hG h.1 h.2)
  · exact zpX_n h (by decide) (by decide) (s_X1_dropBallot_x as2 R hG h)
theorem s_X1_reweigh_q (R : zAR M 2 G) (hG : zWF G) {b x : Int} : z_Call mX1_reweigh zF [(1, 2), (0, b), (0, x)] M (zpX ((0 ≤ b ∧ b < G 1) ∧ (1 ≤ x ∧ x ≤ 99)) (gRec G b x) M) := by
  by_cases h : 0 ≤ b ∧ b < G 1
  · by_cases h2 : 1 ≤ x ∧ x ≤ 99
    · exact zpX_y ⟨h, h2⟩ (s_X1_reweigh as2 R hG h.1 h.2 h2)
    · exact zpX_n (fun e => h2 e.2) (by decide) (by decide) (s_X1_reweigh_y as2 R hG h h2)
  · exact zpX_n (fun e => h e.1) (by decide) (by decide) (s_X1_reweigh_x as2 R hG h)
theorem s_X11_carryOutBallot_x (Hw : zHw M) (x i : Int) (hx : -10 ≤ x ∧ x ≤ -2) (b : Int) {bc bs : Nat} {Q : zV → zS → zM → Prop} (hQ : Q (1, x) zF M) : z_Ex mX11_carryOutBallot zF 38 [(1, 1), (1, x), (0, b), (0, i)] [] M bc bs Q := by
  refine zp_il3 (q := 39) dX11_carryOutBallot_38 rfl ?_
  refine zp_al0 (q := 40) dX11_carryOutBallot_39 rfl ?_
  refine zf_getG (v := 513) 9 (k1) (Hw.re) rfl fdX11_61 (q := 43) dX11_carryOutBallot_40 rfl rfl ?_
  refine zf_getG (v := M 513 4) 4 (k513) (rfl) rfl fdX11_402 (q := 46) dX11_carryOutBallot_43 rfl rfl ?_
  refine zr_icmp_ge (q := 80) (q2 := 49) dX11_carryOutBallot_46 (by decide) rfl (fun h46 => ?_) (fun h46 => ?_)
  · refine zp_al1 (q := 81) dX11_carryOutBallot_80 rfl ?_
    refine zr_areturn dX11_carryOutBallot_81 rfl (Or.inl ⟨_, rfl⟩) ?_
    exact hQ
  · refine zp_al1 (q := 50) dX11_carryOutBallot_49 rfl ?_
    refine zr_gets (v := (1, -1)) (Cn := "WindElection$Fault") (n := "NONE") (d := "LWindElection$Fault;") (fun C s h => zs_F 0 (by decide) h) (fun _ => z_in_of rfl) (z_all_in (i := 1012) (by decide +kernel) (by decide +kernel)) dX11_carryOutBallot_50 rfl ?_
    refine zr_acmp_ne (q := 80) (q2 := 56) (fun hne => z_injF' (by omega) (by omega) hne) dX11_carryOutBallot_53 (by decide) rfl (fun h53 => ?_) (fun h53 => ?_)
    · refine zp_al1 (q := 81) dX11_carryOutBallot_80 rfl ?_
      refine zr_areturn dX11_carryOutBallot_81 rfl (Or.inl ⟨_, rfl⟩) ?_
      exact hQ
    · exact absurd h53 (by omega)
theorem s_X11_carryOutBallot_l (Hw : zHw M) (h3 : M 513 3 = 516) {x f n : Int} {W : Int → Int} (hG : zWF G) (hb : zBs G x f) (hn : 0 ≤ n ∧ n < 60) (h4 : M 513 4 = 2 + n) (hW : ∀ j, 0 ≤ j → j < n → M 516 (2 + j) = W j) (h28 : n ≤ 28) {bc bs : Nat} {Q : zV → zS → zM → Prop}
    (hy : zBo G x f W n.toNat → ∀ M', zAR M' 2 (zB9 G x f W n.toNat) → (∀ z, z < 2 ∨ 46 ≤ z → M' z = M z) → Q (1, -1) zF M') (hx : ¬ zBo G x f W n.toNat → ∀ y M', -10 ≤ y ∧ y ≤ -2 → zHa M' 2 → (∀ z, z < 2 ∨ 46 ≤ z → M' z = M z) → Q (1, y) zF M') :
    ∀ (m : Nat) (j : Int) (M' : zM), 0 ≤ j → j ≤ n → n - j < m → zAR M' 2 (zB9 G x f W j.toNat) → (∀ z, z < 2 ∨ 46 ≤ z → M' z = M z) → (∀ i : Nat, (i : Int) < j → zRo9 (zB9 G x f W i) (G 1) (W i)) →
    z_Ex mX11_carryOutBallot zF 38 [(1, 1), (1, -1), (0, G 1), (0, 2 + j)] [] M' bc bs Q := by
  intro m
  induction m with
  | zero => intro j M' a1 a2 a3; omega
  | succ m ih =>
    intro j M' a1 a2 a3 hR hF hj
    have Hw' : zHw M' := Hw.of (hF 1 (by omega))
    have e4 : M' 513 4 = 2 + n := by rw [hF 513 (by omega)]; exact h4
    have e3 : M' 513 3 = 516 := by rw [hF 513 (by omega)]; exact h3
    have hwf := zB9_w (W := W) hG hb j.toNat (fun i hi => hj i (by omega))
    have hGn := hG.n
    by_cases ej : j < n
    · have eW : M' 516 (2 + j) = W j := by rw [hF 516 (by omega)]; exact hW j a1 ej
      have sE := s_X1_extendBallot_q (b := G 1) (w := W j) hR hwf.1
      refine zp_il3 (q := 39) dX11_carryOutBallot_38 rfl ?_
      refine zp_al0 (q := 40) dX11_carryOutBallot_39 rfl ?_
      refine zf_getG (v := 513) 9 (k1) (Hw'.re) rfl fdX11_61 (q := 43) dX11_carryOutBallot_40 rfl rfl ?_
      refine zf_getG (v := 2 + n) 4 (k513) (e4) rfl fdX11_402 (q := 46) dX11_carryOutBallot_43 rfl rfl ?_
      refine zr_icmp_ge (q := 80) (q2 := 49) dX11_carryOutBallot_46 (by decide) rfl (fun h46 => ?_) (fun h46 => ?_)
      · exact absurd h46 (by omega)
      · refine zp_al1 (q := 50) dX11_carryOutBallot_49 rfl ?_
        refine zr_gets (v := (1, -1)) (Cn := "WindElection$Fault") (n := "NONE") (d := "LWindElection$Fault;") (fun C s h => zs_F 0 (by decide) h) (fun _ => z_in_of rfl) (z_all_in (i := 1012) (by decide +kernel) (by decide +kernel)) dX11_carryOutBallot_50 rfl ?_
        refine zr_acmp_ne (q := 80) (q2 := 56) (fun hne => z_injF' (by omega) (by omega) hne) dX11_carryOutBallot_53 (by decide) rfl (fun h53 => ?_) (fun h53 => ?_)
        · exact absurd rfl h53
        · refine zp_al0 (q := 57) dX11_carryOutBallot_56 rfl ?_
          refine zf_getG (v := 2) 0 (k1) (Hw'.as) rfl fdX11_10 (q := 60) dX11_carryOutBallot_57 rfl rfl ?_
          refine zp_il2 (q := 61) dX11_carryOutBallot_60 rfl ?_
          refine zp_al0 (q := 62) dX11_carryOutBallot_61 rfl ?_
          refine zf_getG (v := 513) 9 (k1) (Hw'.re) rfl fdX11_61 (q := 65) dX11_carryOutBallot_62 rfl rfl ?_
          refine zf_getG (v := 516) 3 (k513) (e3) rfl fdX11_386 (q := 68) dX11_carryOutBallot_65 rfl rfl ?_
          refine zp_il3 (q := 69) dX11_carryOutBallot_68 rfl ?_
          refine zf_iald (v := W j) (k516) (eW) (q := 70) dX11_carryOutBallot_69 rfl (by omega) (by omega) ?_
          refine zf_callV2 (by first | assumption | exact k2 | exact k46 | exact k90) (sE) mtX1_extendBallot wiX1_extendBallot weX1_extendBallot wlX11_113 (q := 73) dX11_carryOutBallot_70 rfl rfl rfl rfl rfl rfl rfl (fun r S9 M9 h8 hP => ?_) (fun k S9 M9 hP => by obtain ⟨x9, hx9, _⟩ := hP; exact (z_no hx9 rfl).elim)
          obtain ⟨y, rfl, rfl, hh⟩ := hP
          refine zp_as1 (q := 74) dX11_carryOutBallot_73 rfl rfl rfl ?_
          refine zp_inc3 (q := 77) dX11_carryOutBallot_74 rfl rfl rfl (fun hA => by unfold z_in at hA ⊢; omega) ?_
          refine zr_goto (q := 38) dX11_carryOutBallot_77 (by decide) ?_
          rcases hh with ⟨rfl, b1, b2, b3⟩ | ⟨b1, b2, b3⟩
          · rw [show 2 + j + 1 = 2 + (j + 1) by omega]
            refine ih (j + 1) M9 (by omega) (by omega) (by omega) ?_ (fun z hz => (b3 z hz).trans (hF z hz)) (fun i hi => ?_)
            · rw [show (j + 1).toNat = j.toNat + 1 by omega]
              show zAR M9 2 (gRank (zB9 G x f W j.toNat) (G 1) (W ((j.toNat : Nat) : Int)))
              rw [show ((j.toNat : Nat) : Int) = j by omega]
              exact b2
            · by_cases e : (i : Int) = j
              · rw [show i = j.toNat by omega, show ((j.toNat : Nat) : Int) = j by omega]
                exact b1
              · exact hj i (by omega)
          · subst b3
            refine s_X11_carryOutBallot_x Hw' y _ b1 _ (hx (fun ho => b2 ?_) y _ b1 hR.h hF)
            have := ho.2 j.toNat (by omega)
            rw [show ((j.toNat : Nat) : Int) = j by omega] at this
            exact this
    · have ej2 : j = n := by omega
      subst ej2
      refine zp_il3 (q := 39) dX11_carryOutBallot_38 rfl ?_
      refine zp_al0 (q := 40) dX11_carryOutBallot_39 rfl ?_
      refine zf_getG (v := 513) 9 (k1) (Hw'.re) rfl fdX11_61 (q := 43) dX11_carryOutBallot_40 rfl rfl ?_
      refine zf_getG (v := 2 + j) 4 (k513) (e4) rfl fdX11_402 (q := 46) dX11_carryOutBallot_43 rfl rfl ?_
      refine zr_icmp_ge (q := 80) (q2 := 49) dX11_carryOutBallot_46 (by decide) rfl (fun h46 => ?_) (fun h46 => ?_)
      · refine zp_al1 (q := 81) dX11_carryOutBallot_80 rfl ?_
        refine zr_areturn dX11_carryOutBallot_81 rfl (Or.inl ⟨_, rfl⟩) ?_
        exact hy ⟨hb, fun i hi => hj i (by omega)⟩ M' hR hF
      · exact absurd (by omega) h46
theorem s_X11_carryOutBallot_q (Hw : zHw M) (h3 : M 513 3 = 516) {x f n : Int} {W : Int → Int} (R : zAR M 2 G) (hG : zWF G) (hn : 0 ≤ n ∧ n ≤ 28) (e0 : M 516 0 = x) (e1 : M 516 1 = f) (h4 : M 513 4 = 2 + n) (hW : ∀ j, 0 ≤ j → j < n → M 516 (2 + j) = W j) {Q : zV → zS → zM → Prop}
    (hy : zBo G x f W n.toNat → ∀ M', zAR M' 2 (zB9 G x f W n.toNat) → (∀ z, z < 2 ∨ 46 ≤ z → M' z = M z) → Q (1, -1) zF M') (hx : ¬ zBo G x f W n.toNat → ∀ y M', -10 ≤ y ∧ y ≤ -2 → zHa M' 2 → (∀ z, z < 2 ∨ 46 ≤ z → M' z = M z) → Q (1, y) zF M') : z_Call mX11_carryOutBallot zF [(1, 1)] M Q := by
  have hGn := hG.n
  refine z_enter (k := 3) rfl rfl rfl ?_
  by_cases hs : zBs G x f
  · have hwf := zB9_w (W := W) hG hs 0 (fun i hi => by omega)
    refine zp_al0 (q := 1) dX11_carryOutBallot_0 rfl ?_
    refine zf_getG (v := 2) 0 (k1) (Hw.as) rfl fdX11_10 (q := 4) dX11_carryOutBallot_1 rfl rfl ?_
    refine zp_al0 (q := 5) dX11_carryOutBallot_4 rfl ?_
    refine zf_getG (v := 513) 9 (k1) (Hw.re) rfl fdX11_61 (q := 8) dX11_carryOutBallot_5 rfl rfl ?_
    refine zf_getG (v := 516) 3 (k513) (h3) rfl fdX11_386 (q := 11) dX11_carryOutBallot_8 rfl rfl ?_
    refine zr_iconst (q := 12) dX11_carryOutBallot_11 rfl (z_in_of rfl) ?_
    refine zf_iald (v := x) (k516) (e0) (q := 13) dX11_carryOutBallot_12 rfl (by omega) (by omega) ?_
    refine zp_al0 (q := 14) dX11_carryOutBallot_13 rfl ?_
    refine zf_getG (v := 513) 9 (k1) (Hw.re) rfl fdX11_61 (q := 17) dX11_carryOutBallot_14 rfl rfl ?_
    refine zf_getG (v := 516) 3 (k513) (h3) rfl fdX11_386 (q := 20) dX11_carryOutBallot_17 rfl rfl ?_
    refine zr_iconst (q := 21) dX11_carryOutBallot_20 rfl (z_in_of rfl) ?_
    refine zf_iald (v := f) (k516) (e1) (q := 22) dX11_carryOutBallot_21 rfl (by omega) (by omega) ?_
    refine zf_callV2 (by first | assumption | exact k2 | exact k46 | exact k90) (s_X1_putBallot as2 R hG hs.2.2 hs.2.1 hs.1) mtX1_putBallot wiX1_putBallot weX1_putBallot wlX11_106 (q := 25) dX11_carryOutBallot_22 rfl rfl rfl rfl rfl rfl rfl (fun r S9 M9 h8 hP => ?_) (fun k S9 M9 hP => (z_no hP.1 rfl).elim)
    obtain ⟨rfl, rfl, R9, F9⟩ := hP
    have Hw9 : zHw M9 := Hw.of (F9 1 (by omega))
    refine zp_as1 (q := 26) dX11_carryOutBallot_25 rfl rfl rfl ?_
    refine zp_al0 (q := 27) dX11_carryOutBallot_26 rfl ?_
    refine zf_getG (v := 2) 0 (k1) (Hw9.as) rfl fdX11_10 (q := 30) dX11_carryOutBallot_27 rfl rfl ?_
    refine zf_getG (v := G 1 + 1) 4 (by first | assumption | exact k2 | exact k46 | exact k90) (R9.n.trans hwf.2) rfl fdX11_110 (q := 33) dX11_carryOutBallot_30 rfl rfl ?_
    refine zr_iconst (q := 34) dX11_carryOutBallot_33 rfl (z_in_of rfl) ?_
    refine zr_isub (q := 35) dX11_carryOutBallot_34 rfl (fun hA hB => by unfold z_in at hA hB ⊢; omega) ?_
    refine zp_is2 (q := 36) dX11_carryOutBallot_35 rfl rfl rfl ?_
    refine zr_iconst (q := 37) dX11_carryOutBallot_36 rfl (z_in_of rfl) ?_
    refine zp_is3 (q := 38) dX11_carryOutBallot_37 rfl rfl rfl ?_
    rw [show G 1 + 1 - 1 = G 1 by omega]
    exact s_X11_carryOutBallot_l Hw h3 hG hs (by omega) h4 hW hn.2 hy hx 61 0 M9 (by omega) (by omega) (by omega) R9 F9 (fun i hi => by omega)
  · skip
    refine zp_al0 (q := 1) dX11_carryOutBallot_0 rfl ?_
    refine zf_getG (v := 2) 0 (k1) (Hw.as) rfl fdX11_10 (q := 4) dX11_carryOutBallot_1 rfl rfl ?_
    refine zp_al0 (q := 5) dX11_carryOutBallot_4 rfl ?_
    refine zf_getG (v := 513) 9 (k1) (Hw.re) rfl fdX11_61 (q := 8) dX11_carryOutBallot_5 rfl rfl ?_
    refine zf_getG (v := 516) 3 (k513) (h3) rfl fdX11_386 (q := 11) dX11_carryOutBallot_8 rfl rfl ?_
    refine zr_iconst (q := 12) dX11_carryOutBallot_11 rfl (z_in_of rfl) ?_
    refine zf_iald (v := x) (k516) (e0) (q := 13) dX11_carryOutBallot_12 rfl (by omega) (by omega) ?_
    refine zp_al0 (q := 14) dX11_carryOutBallot_13 rfl ?_
    refine zf_getG (v := 513) 9 (k1) (Hw.re) rfl fdX11_61 (q := 17) dX11_carryOutBallot_14 rfl rfl ?_
    refine zf_getG (v := 516) 3 (k513) (h3) rfl fdX11_386 (q := 20) dX11_carryOutBallot_17 rfl rfl ?_
    refine zr_iconst (q := 21) dX11_carryOutBallot_20 rfl (z_in_of rfl) ?_
    refine zf_iald (v := f) (k516) (e1) (q := 22) dX11_carryOutBallot_21 rfl (by omega) (by omega) ?_
    refine zf_callV2 (by first | assumption | exact k2 | exact k46 | exact k90) (s_X1_putBallot_q R hG) mtX1_putBallot wiX1_putBallot weX1_putBallot wlX11_106 (q := 25) dX11_carryOutBallot_22 rfl rfl rfl rfl rfl rfl rfl (fun r S9 M9 h8 hP => ?_) (fun k S9 M9 hP => by obtain ⟨x9, hx9, _⟩ := hP; exact (z_no hx9 rfl).elim)
    obtain ⟨y, rfl, rfl, hh⟩ := hP
    have hy9 : (-10 ≤ y ∧ y ≤ -2) ∧ M9 = M := hh.elim (fun q => absurd q.2.1 hs) (fun q => ⟨q.1, q.2.2⟩)
    have hme := hy9.2
    subst M9
    refine zp_as1 (q := 26) dX11_carryOutBallot_25 rfl rfl rfl ?_
    refine zp_al0 (q := 27) dX11_carryOutBallot_26 rfl ?_
    refine zf_getG (v := 2) 0 (k1) (Hw.as) rfl fdX11_10 (q := 30) dX11_carryOutBallot_27 rfl rfl ?_
    refine zf_getG (v := G 1) 4 (by first | assumption | exact k2 | exact k46 | exact k90) (R.n) rfl fdX11_110 (q := 33) dX11_carryOutBallot_30 rfl rfl ?_
    refine zr_iconst (q := 34) dX11_carryOutBallot_33 rfl (z_in_of rfl) ?_
    refine zr_isub (q := 35) dX11_carryOutBallot_34 rfl (fun hA hB => by unfold z_in at hA hB ⊢; omega) ?_
    refine zp_is2 (q := 36) dX11_carryOutBallot_35 rfl rfl rfl ?_
    refine zr_iconst (q := 37) dX11_carryOutBallot_36 rfl (z_in_of rfl) ?_
    refine zp_is3 (q := 38) dX11_carryOutBallot_37 rfl rfl rfl ?_
    exact s_X11_carryOutBallot_x Hw y 2 hy9.1 _ (hx (fun ho => hs ho.1) y _ hy9.1 R.h (fun _ _ => rfl))
theorem s_X11_carryOutBallot (Hw : zHw M) (h3 : M 513 3 = 516) {x f n : Int} {W : Int → Int} (R : zAR M 2 G) (hG : zWF G) (hn : 0 ≤ n ∧ n ≤ 28) (e0 : M 516 0 = x) (e1 : M 516 1 = f) (h4 : M 513 4 = 2 + n) (hW : ∀ j, 0 ≤ j → j < n → M 516 (2 + j) = W j) :
    z_Call mX11_carryOutBallot zF [(1, 1)] M (fun r S' M' => ∃ y, r = (1, y) ∧ S' = zF ∧ ((y = -1 ∧ zBo G x f W n.toNat ∧ zAR M' 2 (zB9 G x f W n.toNat) ∧ ∀ z, z < 2 ∨ 46 ≤ z → M' z = M z) ∨ ((-10 ≤ y ∧ y ≤ -2) ∧ ¬ zBo G x f W n.toNat ∧ zHa M' 2 ∧ ∀ z, z < 2 ∨ 46 ≤ z → M' z = M z))) :=
  s_X11_carryOutBallot_q Hw h3 R hG hn e0 e1 h4 hW (fun a M1 b d => ⟨-1, rfl, rfl, Or.inl ⟨rfl, a, b, d⟩⟩) (fun a y M1 b d f => ⟨y, rfl, rfl, Or.inr ⟨b, a, d, f⟩⟩)
theorem s_X11_carryOut_q (Hw : zHw M) (h3 : M 513 3 = 516) (R : zAR M 2 G) (hG : zWF G) (Hc : zHc M) (Hp : zHp M) (hw : 0 ≤ zWw c p ∧ zWw c p < 8) (h2 : M 513 2 = -(11 + zWw c p)) (hN : zNu M c p) (hf : 0 ≤ zFw9 c (zq3 c p) ∧ zFw9 c (zq3 c p) ≤ 28) {Q : zV → zS → zM → Prop}
    (hy : zXo9 G c p → ∀ M', zAR M' 2 (gX9 G c p) → (∀ z, z < 2 ∨ 46 ≤ z → z < 488 ∨ 509 < z → M' z = M z) → zHc M' → zHp M' → Q (1, -1) zF M') (hx : ¬ zXo9 G c p → ∀ y M', -10 ≤ y ∧ y ≤ -2 → zHa M' 2 → (∀ z, z < 2 ∨ 46 ≤ z → z < 488 ∨ 509 < z → M' z = M z) → zHc M' → zHp M' → Q (1, y) zF M') : z_Call mX11_carryOut zF [(1, 1)] M Q := by
  have h8 : zWw c p = 0 ∨ zWw c p = 1 ∨ zWw c p = 2 ∨ zWw c p = 3 ∨ zWw c p = 4 ∨ zWw c p = 5 ∨ zWw c p = 6 ∨ zWw c p = 7 := by omega
  have hsp := hG.sp
  refine z_enter (k := 2) rfl rfl rfl ?_
  rcases h8 with e | e | e | e | e | e | e | e
  · rw [zXo9_0 e, gX9_0 e] at hy
    rw [zXo9_0 e] at hx
    refine zp_al0 (q := 1) dX11_carryOut_0 rfl ?_
    refine zf_getG (v := 513) 9 (k1) (Hw.re) rfl fdX11_61 (q := 4) dX11_carryOut_1 rfl rfl ?_
    refine zf_getG (v := 516) 3 (k513) (h3) rfl fdX11_386 (q := 7) dX11_carryOut_4 rfl rfl ?_
    refine zr_iconst (q := 8) dX11_carryOut_7 rfl (z_in_of rfl) ?_
    refine zf_iald (v := M 516 0) (k516) (rfl) (q := 9) dX11_carryOut_8 rfl (by omega) (by omega) ?_
    refine zp_is1 (q := 10) dX11_carryOut_9 rfl rfl rfl ?_
    refine zp_al0 (q := 11) dX11_carryOut_10 rfl ?_
    refine zf_getG (v := 513) 9 (k1) (Hw.re) rfl fdX11_61 (q := 14) dX11_carryOut_11 rfl rfl ?_
    refine zf_getG (v := 516) 3 (k513) (h3) rfl fdX11_386 (q := 17) dX11_carryOut_14 rfl rfl ?_
    refine zr_iconst (q := 18) dX11_carryOut_17 rfl (z_in_of rfl) ?_
    refine zf_iald (v := M 516 1) (k516) (rfl) (q := 19) dX11_carryOut_18 rfl (by omega) (by omega) ?_
    refine zp_is2 (q := 20) dX11_carryOut_19 rfl rfl rfl ?_
    refine zr_gets (v := (1, -21)) (Cn := "WindElection$1") (n := "$SwitchMap$WindElection$Word") (d := "[I") (fun C s h => zs_SW h) (fun _ => z_in_of rfl) (z_all_in (i := 1176) (by decide +kernel) (by decide +kernel)) dX11_carryOut_20 rfl ?_
    refine zp_al0 (q := 24) dX11_carryOut_23 rfl ?_
    refine zf_getG (v := 513) 9 (k1) (Hw.re) rfl fdX11_61 (q := 27) dX11_carryOut_24 rfl rfl ?_
    refine zf_getG (v := -((11 + 0 : Nat) : Int)) 2 (k513) (by rw [h2, e]; rfl) rfl fdX11_392 (q := 30) dX11_carryOut_27 rfl rfl ?_
    refine zr_ordW (i := 0) (q := 33) (by decide) rfl rfl dX11_carryOut_30 rfl rfl rfl rfl ?_
    refine zr_mapW (q := 34) dX11_carryOut_33 rfl (by decide) (by decide) ?_
    refine zr_tableIn (q := 80) (off := 46) dX11_carryOut_34 (by decide) (by decide) rfl (by decide) ?_
    refine zp_al0 (q := 81) dX11_carryOut_80 rfl ?_
    refine zf_getG (v := 2) 0 (k1) (Hw.as) rfl fdX11_10 (q := 84) dX11_carryOut_81 rfl rfl ?_
    refine zf_callV0 (by first | assumption | exact k2 | exact k46 | exact k90) (s_X1_putWind_q R hG) mtX1_putWind wiX1_putWind weX1_putWind wlX11_76 (q := 87) dX11_carryOut_84 rfl rfl rfl rfl rfl rfl rfl (fun r S9 M9 h8 hP => ?_) (fun k S9 M9 hP => by obtain ⟨x9, hx9, _⟩ := hP; exact (z_no hx9 rfl).elim)
    obtain ⟨y, rfl, rfl, hh⟩ := hP
    refine zr_areturn dX11_carryOut_87 rfl (Or.inl ⟨_, rfl⟩) ?_
    rcases hh with ⟨rfl, b1, b2, b3⟩ | ⟨b1, b2, b3⟩
    · exact hy b1 M9 b2 (fun z a _ => b3 z a) (Hc.of (fun z a b => b3 z (by omega))) (Hp.of (fun z a b => b3 z (by omega)))
    · subst b3
      exact hx b2 y _ b1 R.h (fun _ _ _ => rfl) Hc Hp
  · rw [zXo9_1 e, gX9_1 e] at hy
    rw [zXo9_1 e] at hx
    have q1 : M 516 0 = zn1 c p := hN.1 (by rw [e]; decide)
    refine zp_al0 (q := 1) dX11_carryOut_0 rfl ?_
    refine zf_getG (v := 513) 9 (k1) (Hw.re) rfl fdX11_61 (q := 4) dX11_carryOut_1 rfl rfl ?_
    refine zf_getG (v := 516) 3 (k513) (h3) rfl fdX11_386 (q := 7) dX11_carryOut_4 rfl rfl ?_
    refine zr_iconst (q := 8) dX11_carryOut_7 rfl (z_in_of rfl) ?_
    refine zf_iald (v := zn1 c p) (k516) (q1) (q := 9) dX11_carryOut_8 rfl (by omega) (by omega) ?_
    refine zp_is1 (q := 10) dX11_carryOut_9 rfl rfl rfl ?_
    refine zp_al0 (q := 11) dX11_carryOut_10 rfl ?_
    refine zf_getG (v := 513) 9 (k1) (Hw.re) rfl fdX11_61 (q := 14) dX11_carryOut_11 rfl rfl ?_
    refine zf_getG (v := 516) 3 (k513) (h3) rfl fdX11_386 (q := 17) dX11_carryOut_14 rfl rfl ?_
    refine zr_iconst (q := 18) dX11_carryOut_17 rfl (z_in_of rfl) ?_
    refine zf_iald (v := M 516 1) (k516) (rfl) (q := 19) dX11_carryOut_18 rfl (by omega) (by omega) ?_
    refine zp_is2 (q := 20) dX11_carryOut_19 rfl rfl rfl ?_
    refine zr_gets (v := (1, -21)) (Cn := "WindElection$1") (n := "$SwitchMap$WindElection$Word") (d := "[I") (fun C s h => zs_SW h) (fun _ => z_in_of rfl) (z_all_in (i := 1176) (by decide +kernel) (by decide +kernel)) dX11_carryOut_20 rfl ?_
    refine zp_al0 (q := 24) dX11_carryOut_23 rfl ?_
    refine zf_getG (v := 513) 9 (k1) (Hw.re) rfl fdX11_61 (q := 27) dX11_carryOut_24 rfl rfl ?_
    refine zf_getG (v := -((11 + 1 : Nat) : Int)) 2 (k513) (by rw [h2, e]; rfl) rfl fdX11_392 (q := 30) dX11_carryOut_27 rfl rfl ?_
    refine zr_ordW (i := 1) (q := 33) (by decide) rfl rfl dX11_carryOut_30 rfl rfl rfl rfl ?_
    refine zr_mapW (q := 34) dX11_carryOut_33 rfl (by decide) (by decide) ?_
    refine zr_tableIn (q := 88) (off := 54) dX11_carryOut_34 (by decide) (by decide) rfl (by decide) ?_
    refine zp_al0 (q := 89) dX11_carryOut_88 rfl ?_
    refine zf_getG (v := 2) 0 (k1) (Hw.as) rfl fdX11_10 (q := 92) dX11_carryOut_89 rfl rfl ?_
    refine zp_il1 (q := 93) dX11_carryOut_92 rfl ?_
    refine zf_callV1 (by first | assumption | exact k2 | exact k46 | exact k90) (s_X1_letGo_q R hG) mtX1_letGo wiX1_letGo weX1_letGo wlX11_87 (q := 96) dX11_carryOut_93 rfl rfl rfl rfl rfl rfl rfl (fun r S9 M9 h8 hP => ?_) (fun k S9 M9 hP => by obtain ⟨x9, hx9, _⟩ := hP; exact (z_no hx9 rfl).elim)
    obtain ⟨y, rfl, rfl, hh⟩ := hP
    refine zr_areturn dX11_carryOut_96 rfl (Or.inl ⟨_, rfl⟩) ?_
    rcases hh with ⟨rfl, b1, b2, b3⟩ | ⟨b1, b2, b3⟩
    · exact hy b1 M9 b2 (fun z a _ => b3 z a) (Hc.of (fun z a b => b3 z (by omega))) (Hp.of (fun z a b => b3 z (by omega)))
    · subst b3
      exact hx b2 y _ b1 R.h (fun _ _ _ => rfl) Hc Hp
  · rw [zXo9_2 e, gX9_2 e] at hy
    rw [zXo9_2 e] at hx
    have q1 : M 516 0 = zn1 c p := hN.1 (by rw [e]; decide)
    have q2 : M 516 1 = zn2 c p := hN.2.1 (by rw [e]; decide)
    refine zp_al0 (q := 1) dX11_carryOut_0 rfl ?_
    refine zf_getG (v := 513) 9 (k1) (Hw.re) rfl fdX11_61 (q := 4) dX11_carryOut_1 rfl rfl ?_
    refine zf_getG (v := 516) 3 (k513) (h3) rfl fdX11_386 (q := 7) dX11_carryOut_4 rfl rfl ?_
    refine zr_iconst (q := 8) dX11_carryOut_7 rfl (z_in_of rfl) ?_
    refine zf_iald (v := zn1 c p) (k516) (q1) (q := 9) dX11_carryOut_8 rfl (by omega) (by omega) ?_
    refine zp_is1 (q := 10) dX11_carryOut_9 rfl rfl rfl ?_
    refine zp_al0 (q := 11) dX11_carryOut_10 rfl ?_
    refine zf_getG (v := 513) 9 (k1) (Hw.re) rfl fdX11_61 (q := 14) dX11_carryOut_11 rfl rfl ?_
    refine zf_getG (v := 516) 3 (k513) (h3) rfl fdX11_386 (q := 17) dX11_carryOut_14 rfl rfl ?_
    refine zr_iconst (q := 18) dX11_carryOut_17 rfl (z_in_of rfl) ?_
    refine zf_iald (v := zn2 c p) (k516) (q2) (q := 19) dX11_carryOut_18 rfl (by omega) (by omega) ?_
    refine zp_is2 (q := 20) dX11_carryOut_19 rfl rfl rfl ?_
    refine zr_gets (v := (1, -21)) (Cn := "WindElection$1") (n := "$SwitchMap$WindElection$Word") (d := "[I") (fun C s h => zs_SW h) (fun _ => z_in_of rfl) (z_all_in (i := 1176) (by decide +kernel) (by decide +kernel)) dX11_carryOut_20 rfl ?_
    refine zp_al0 (q := 24) dX11_carryOut_23 rfl ?_
    refine zf_getG (v := 513) 9 (k1) (Hw.re) rfl fdX11_61 (q := 27) dX11_carryOut_24 rfl rfl ?_
    refine zf_getG (v := -((11 + 2 : Nat) : Int)) 2 (k513) (by rw [h2, e]; rfl) rfl fdX11_392 (q := 30) dX11_carryOut_27 rfl rfl ?_
    refine zr_ordW (i := 2) (q := 33) (by decide) rfl rfl dX11_carryOut_30 rfl rfl rfl rfl ?_
    refine zr_mapW (q := 34) dX11_carryOut_33 rfl (by decide) (by decide) ?_
    refine zr_tableIn (q := 97) (off := 63) dX11_carryOut_34 (by decide) (by decide) rfl (by decide) ?_
    refine zp_al0 (q := 98) dX11_carryOut_97 rfl ?_
    refine zf_callV0 (k1) (s_X11_carryOutBallot Hw h3 (W := znw c p) R hG hf q1 q2 (hN.2.2 e).1 (hN.2.2 e).2) mtX11_carryOutBallot wiX11_carryOutBallot weX11_carryOutBallot wlX11_399 (q := 101) dX11_carryOut_98 rfl rfl rfl rfl rfl rfl rfl (fun r S9 M9 h8 hP => ?_) (fun k S9 M9 hP => by obtain ⟨x9, hx9, _⟩ := hP; exact (z_no hx9 rfl).elim)
    obtain ⟨y, rfl, rfl, hh⟩ := hP
    refine zr_areturn dX11_carryOut_101 rfl (Or.inl ⟨_, rfl⟩) ?_
    rcases hh with ⟨rfl, b1, b2, b3⟩ | ⟨b1, b2, b3, b4⟩
    · exact hy b1 M9 b2 (fun z a _ => b3 z a) (Hc.of (fun z a b => b3 z (by omega))) (Hp.of (fun z a b => b3 z (by omega)))
    · exact hx b2 y _ b1 b3 (fun z a _ => b4 z a) (Hc.of (fun z a b => b4 z (by omega))) (Hp.of (fun z a b => b4 z (by omega)))
  · rw [zXo9_3 e, gX9_3 e] at hy
    rw [zXo9_3 e] at hx
    have q1 : M 516 0 = zn1 c p := hN.1 (by rw [e]; decide)
    have q2 : M 516 1 = zn2 c p := hN.2.1 (by rw [e]; decide)
    refine zp_al0 (q := 1) dX11_carryOut_0 rfl ?_
    refine zf_getG (v := 513) 9 (k1) (Hw.re) rfl fdX11_61 (q := 4) dX11_carryOut_1 rfl rfl ?_
    refine zf_getG (v := 516) 3 (k513) (h3) rfl fdX11_386 (q := 7) dX11_carryOut_4 rfl rfl ?_
    refine zr_iconst (q := 8) dX11_carryOut_7 rfl (z_in_of rfl) ?_
    refine zf_iald (v := zn1 c p) (k516) (q1) (q := 9) dX11_carryOut_8 rfl (by omega) (by omega) ?_
    refine zp_is1 (q := 10) dX11_carryOut_9 rfl rfl rfl ?_
    refine zp_al0 (q := 11) dX11_carryOut_10 rfl ?_
    refine zf_getG (v := 513) 9 (k1) (Hw.re) rfl fdX11_61 (q := 14) dX11_carryOut_11 rfl rfl ?_
    refine zf_getG (v := 516) 3 (k513) (h3) rfl fdX11_386 (q := 17) dX11_carryOut_14 rfl rfl ?_
    refine zr_iconst (q := 18) dX11_carryOut_17 rfl (z_in_of rfl) ?_
    refine zf_iald (v := zn2 c p) (k516) (q2) (q := 19) dX11_carryOut_18 rfl (by omega) (by omega) ?_
    refine zp_is2 (q := 20) dX11_carryOut_19 rfl rfl rfl ?_
    refine zr_gets (v := (1, -21)) (Cn := "WindElection$1") (n := "$SwitchMap$WindElection$Word") (d := "[I") (fun C s h => zs_SW h) (fun _ => z_in_of rfl) (z_all_in (i := 1176) (by decide +kernel) (by decide +kernel)) dX11_carryOut_20 rfl ?_
    refine zp_al0 (q := 24) dX11_carryOut_23 rfl ?_
    refine zf_getG (v := 513) 9 (k1) (Hw.re) rfl fdX11_61 (q := 27) dX11_carryOut_24 rfl rfl ?_
    refine zf_getG (v := -((11 + 3 : Nat) : Int)) 2 (k513) (by rw [h2, e]; rfl) rfl fdX11_392 (q := 30) dX11_carryOut_27 rfl rfl ?_
    refine zr_ordW (i := 3) (q := 33) (by decide) rfl rfl dX11_carryOut_30 rfl rfl rfl rfl ?_
    refine zr_mapW (q := 34) dX11_carryOut_33 rfl (by decide) (by decide) ?_
    refine zr_tableIn (q := 102) (off := 68) dX11_carryOut_34 (by decide) (by decide) rfl (by decide) ?_
    refine zp_al0 (q := 103) dX11_carryOut_102 rfl ?_
    refine zf_getG (v := 2) 0 (k1) (Hw.as) rfl fdX11_10 (q := 106) dX11_carryOut_103 rfl rfl ?_
    refine zp_il1 (q := 107) dX11_carryOut_106 rfl ?_
    refine zp_il2 (q := 108) dX11_carryOut_107 rfl ?_
    refine zf_callV2 (by first | assumption | exact k2 | exact k46 | exact k90) (s_X1_extendBallot_q R hG) mtX1_extendBallot wiX1_extendBallot weX1_extendBallot wlX11_113 (q := 111) dX11_carryOut_108 rfl rfl rfl rfl rfl rfl rfl (fun r S9 M9 h8 hP => ?_) (fun k S9 M9 hP => by obtain ⟨x9, hx9, _⟩ := hP; exact (z_no hx9 rfl).elim)
    obtain ⟨y, rfl, rfl, hh⟩ := hP
    refine zr_areturn dX11_carryOut_111 rfl (Or.inl ⟨_, rfl⟩) ?_
    rcases hh with ⟨rfl, b1, b2, b3⟩ | ⟨b1, b2, b3⟩
    · exact hy b1 M9 b2 (fun z a _ => b3 z a) (Hc.of (fun z a b => b3 z (by omega))) (Hp.of (fun z a b => b3 z (by omega)))
    · subst b3
      exact hx b2 y _ b1 R.h (fun _ _ _ => rfl) Hc Hp
  · rw [zXo9_4 e, gX9_4 e] at hy
    rw [zXo9_4 e] at hx
    have q1 : M 516 0 = zn1 c p := hN.1 (by rw [e]; decide)
    refine zp_al0 (q := 1) dX11_carryOut_0 rfl ?_
    refine zf_getG (v := 513) 9 (k1) (Hw.re) rfl fdX11_61 (q := 4) dX11_carryOut_1 rfl rfl ?_
    refine zf_getG (v := 516) 3 (k513) (h3) rfl fdX11_386 (q := 7) dX11_carryOut_4 rfl rfl ?_
    refine zr_iconst (q := 8) dX11_carryOut_7 rfl (z_in_of rfl) ?_
    refine zf_iald (v := zn1 c p) (k516) (q1) (q := 9) dX11_carryOut_8 rfl (by omega) (by omega) ?_
    refine zp_is1 (q := 10) dX11_carryOut_9 rfl rfl rfl ?_
    refine zp_al0 (q := 11) dX11_carryOut_10 rfl ?_
    refine zf_getG (v := 513) 9 (k1) (Hw.re) rfl fdX11_61 (q := 14) dX11_carryOut_11 rfl rfl ?_
    refine zf_getG (v := 516) 3 (k513) (h3) rfl fdX11_386 (q := 17) dX11_carryOut_14 rfl rfl ?_
    refine zr_iconst (q := 18) dX11_carryOut_17 rfl (z_in_of rfl) ?_
    refine zf_iald (v := M 516 1) (k516) (rfl) (q := 19) dX11_carryOut_18 rfl (by omega) (by omega) ?_
    refine zp_is2 (q := 20) dX11_carryOut_19 rfl rfl rfl ?_
    refine zr_gets (v := (1, -21)) (Cn := "WindElection$1") (n := "$SwitchMap$WindElection$Word") (d := "[I") (fun C s h => zs_SW h) (fun _ => z_in_of rfl) (z_all_in (i := 1176) (by decide +kernel) (by decide +kernel)) dX11_carryOut_20 rfl ?_
    refine zp_al0 (q := 24) dX11_carryOut_23 rfl ?_
    refine zf_getG (v := 513) 9 (k1) (Hw.re) rfl fdX11_61 (q := 27) dX11_carryOut_24 rfl rfl ?_
    refine zf_getG (v := -((11 + 4 : Nat) : Int)) 2 (k513) (by rw [h2, e]; rfl) rfl fdX11_392 (q := 30) dX11_carryOut_27 rfl rfl ?_
    refine zr_ordW (i := 4) (q := 33) (by decide) rfl rfl dX11_carryOut_30 rfl rfl rfl rfl ?_
    refine zr_mapW (q := 34) dX11_carryOut_33 rfl (by decide) (by decide) ?_
    refine zr_tableIn (q := 112) (off := 78) dX11_carryOut_34 (by decide) (by decide) rfl (by decide) ?_
    refine zp_al0 (q := 113) dX11_carryOut_112 rfl ?_
    refine zf_getG (v := 2) 0 (k1) (Hw.as) rfl fdX11_10 (q := 116) dX11_carryOut_113 rfl rfl ?_
    refine zp_il1 (q := 117) dX11_carryOut_116 rfl ?_
    refine zf_callV1 (by first | assumption | exact k2 | exact k46 | exact k90) (s_X1_dropBallot_q R hG) mtX1_dropBallot wiX1_dropBallot weX1_dropBallot wlX11_128 (q := 120) dX11_carryOut_117 rfl rfl rfl rfl rfl rfl rfl (fun r S9 M9 h8 hP => ?_) (fun k S9 M9 hP => by obtain ⟨x9, hx9, _⟩ := hP; exact (z_no hx9 rfl).elim)
    obtain ⟨y, rfl, rfl, hh⟩ := hP
    refine zr_areturn dX11_carryOut_120 rfl (Or.inl ⟨_, rfl⟩) ?_
    rcases hh with ⟨rfl, b1, b2, b3⟩ | ⟨b1, b2, b3⟩
    · exact hy b1 M9 b2 (fun z a _ => b3 z a) (Hc.of (fun z a b => b3 z (by omega))) (Hp.of (fun z a b => b3 z (by omega)))
    · subst b3
      exact hx b2 y _ b1 R.h (fun _ _ _ => rfl) Hc Hp
  · rw [zXo9_5 e, gX9_5 e] at hy
    rw [zXo9_5 e] at hx
    have q1 : M 516 0 = zn1 c p := hN.1 (by rw [e]; decide)
    have q2 : M 516 1 = zn2 c p := hN.2.1 (by rw [e]; decide)
    refine zp_al0 (q := 1) dX11_carryOut_0 rfl ?_
    refine zf_getG (v := 513) 9 (k1) (Hw.re) rfl fdX11_61 (q := 4) dX11_carryOut_1 rfl rfl ?_
    refine zf_getG (v := 516) 3 (k513) (h3) rfl fdX11_386 (q := 7) dX11_carryOut_4 rfl rfl ?_
    refine zr_iconst (q := 8) dX11_carryOut_7 rfl (z_in_of rfl) ?_
    refine zf_iald (v := zn1 c p) (k516) (q1) (q := 9) dX11_carryOut_8 rfl (by omega) (by omega) ?_
    refine zp_is1 (q := 10) dX11_carryOut_9 rfl rfl rfl ?_
    refine zp_al0 (q := 11) dX11_carryOut_10 rfl ?_
    refine zf_getG (v := 513) 9 (k1) (Hw.re) rfl fdX11_61 (q := 14) dX11_carryOut_11 rfl rfl ?_
    refine zf_getG (v := 516) 3 (k513) (h3) rfl fdX11_386 (q := 17) dX11_carryOut_14 rfl rfl ?_
    refine zr_iconst (q := 18) dX11_carryOut_17 rfl (z_in_of rfl) ?_
    refine zf_iald (v := zn2 c p) (k516) (q2) (q := 19) dX11_carryOut_18 rfl (by omega) (by omega) ?_
    refine zp_is2 (q := 20) dX11_carryOut_19 rfl rfl rfl ?_
    refine zr_gets (v := (1, -21)) (Cn := "WindElection$1") (n := "$SwitchMap$WindElection$Word") (d := "[I") (fun C s h => zs_SW h) (fun _ => z_in_of rfl) (z_all_in (i := 1176) (by decide +kernel) (by decide +kernel)) dX11_carryOut_20 rfl ?_
    refine zp_al0 (q := 24) dX11_carryOut_23 rfl ?_
    refine zf_getG (v := 513) 9 (k1) (Hw.re) rfl fdX11_61 (q := 27) dX11_carryOut_24 rfl rfl ?_
    refine zf_getG (v := -((11 + 5 : Nat) : Int)) 2 (k513) (by rw [h2, e]; rfl) rfl fdX11_392 (q := 30) dX11_carryOut_27 rfl rfl ?_
    refine zr_ordW (i := 5) (q := 33) (by decide) rfl rfl dX11_carryOut_30 rfl rfl rfl rfl ?_
    refine zr_mapW (q := 34) dX11_carryOut_33 rfl (by decide) (by decide) ?_
    refine zr_tableIn (q := 121) (off := 87) dX11_carryOut_34 (by decide) (by decide) rfl (by decide) ?_
    refine zp_al0 (q := 122) dX11_carryOut_121 rfl ?_
    refine zf_getG (v := 2) 0 (k1) (Hw.as) rfl fdX11_10 (q := 125) dX11_carryOut_122 rfl rfl ?_
    refine zp_il1 (q := 126) dX11_carryOut_125 rfl ?_
    refine zp_il2 (q := 127) dX11_carryOut_126 rfl ?_
    refine zf_callV2 (by first | assumption | exact k2 | exact k46 | exact k90) (s_X1_reweigh_q R hG) mtX1_reweigh wiX1_reweigh weX1_reweigh wlX11_131 (q := 130) dX11_carryOut_127 rfl rfl rfl rfl rfl rfl rfl (fun r S9 M9 h8 hP => ?_) (fun k S9 M9 hP => by obtain ⟨x9, hx9, _⟩ := hP; exact (z_no hx9 rfl).elim)
    obtain ⟨y, rfl, rfl, hh⟩ := hP
    refine zr_areturn dX11_carryOut_130 rfl (Or.inl ⟨_, rfl⟩) ?_
    rcases hh with ⟨rfl, b1, b2, b3⟩ | ⟨b1, b2, b3⟩
    · exact hy b1 M9 b2 (fun z a _ => b3 z a) (Hc.of (fun z a b => b3 z (by omega))) (Hp.of (fun z a b => b3 z (by omega)))
    · subst b3
      exact hx b2 y _ b1 R.h (fun _ _ _ => rfl) Hc Hp
  · rw [zXo9_6 e, gX9_6 e] at hy
    rw [zXo9_6 e] at hx
    refine zp_al0 (q := 1) dX11_carryOut_0 rfl ?_
    refine zf_getG (v := 513) 9 (k1) (Hw.re) rfl fdX11_61 (q := 4) dX11_carryOut_1 rfl rfl ?_
    refine zf_getG (v := 516) 3 (k513) (h3) rfl fdX11_386 (q := 7) dX11_carryOut_4 rfl rfl ?_
    refine zr_iconst (q := 8) dX11_carryOut_7 rfl (z_in_of rfl) ?_
    refine zf_iald (v := M 516 0) (k516) (rfl) (q := 9) dX11_carryOut_8 rfl (by omega) (by omega) ?_
    refine zp_is1 (q := 10) dX11_carryOut_9 rfl rfl rfl ?_
    refine zp_al0 (q := 11) dX11_carryOut_10 rfl ?_
    refine zf_getG (v := 513) 9 (k1) (Hw.re) rfl fdX11_61 (q := 14) dX11_carryOut_11 rfl rfl ?_
    refine zf_getG (v := 516) 3 (k513) (h3) rfl fdX11_386 (q := 17) dX11_carryOut_14 rfl rfl ?_
    refine zr_iconst (q := 18) dX11_carryOut_17 rfl (z_in_of rfl) ?_
    refine zf_iald (v := M 516 1) (k516) (rfl) (q := 19) dX11_carryOut_18 rfl (by omega) (by omega) ?_
    refine zp_is2 (q := 20) dX11_carryOut_19 rfl rfl rfl ?_
    refine zr_gets (v := (1, -21)) (Cn := "WindElection$1") (n := "$SwitchMap$WindElection$Word") (d := "[I") (fun C s h => zs_SW h) (fun _ => z_in_of rfl) (z_all_in (i := 1176) (by decide +kernel) (by decide +kernel)) dX11_carryOut_20 rfl ?_
    refine zp_al0 (q := 24) dX11_carryOut_23 rfl ?_
    refine zf_getG (v := 513) 9 (k1) (Hw.re) rfl fdX11_61 (q := 27) dX11_carryOut_24 rfl rfl ?_
    refine zf_getG (v := -((11 + 6 : Nat) : Int)) 2 (k513) (by rw [h2, e]; rfl) rfl fdX11_392 (q := 30) dX11_carryOut_27 rfl rfl ?_
    refine zr_ordW (i := 6) (q := 33) (by decide) rfl rfl dX11_carryOut_30 rfl rfl rfl rfl ?_
    refine zr_mapW (q := 34) dX11_carryOut_33 rfl (by decide) (by decide) ?_
    refine zr_tableIn (q := 131) (off := 97) dX11_carryOut_34 (by decide) (by decide) rfl (by decide) ?_
    refine zp_al0 (q := 132) dX11_carryOut_131 rfl ?_
    refine zf_getG (v := 2) 0 (k1) (Hw.as) rfl fdX11_10 (q := 135) dX11_carryOut_132 rfl rfl ?_
    refine zf_callV0 (by first | assumption | exact k2 | exact k46 | exact k90) (s_X1_turnSpinner as2 R hG) mtX1_turnSpinner wiX1_turnSpinner weX1_turnSpinner wlX11_231 (q := 138) dX11_carryOut_135 rfl rfl rfl rfl rfl rfl rfl (fun r S9 M9 h8 hP => ?_) (fun k S9 M9 hP => (z_no hP.1 rfl).elim)
    obtain ⟨rfl, rfl, R9, F9⟩ := hP
    refine zr_areturn dX11_carryOut_138 rfl (Or.inl ⟨_, rfl⟩) ?_
    exact hy trivial M9 R9 (fun z a _ => F9 z (by omega)) (Hc.of (fun z a b => F9 z (by omega))) (Hp.of (fun z a b => F9 z (by omega)))
  · rw [zXo9_7 e, gX9_7 e] at hy
    rw [zXo9_7 e] at hx
    by_cases hs : zSt G = 0
    · skip
      refine zp_al0 (q := 1) dX11_carryOut_0 rfl ?_
      refine zf_getG (v := 513) 9 (k1) (Hw.re) rfl fdX11_61 (q := 4) dX11_carryOut_1 rfl rfl ?_
      refine zf_getG (v := 516) 3 (k513) (h3) rfl fdX11_386 (q := 7) dX11_carryOut_4 rfl rfl ?_
      refine zr_iconst (q := 8) dX11_carryOut_7 rfl (z_in_of rfl) ?_
      refine zf_iald (v := M 516 0) (k516) (rfl) (q := 9) dX11_carryOut_8 rfl (by omega) (by omega) ?_
      refine zp_is1 (q := 10) dX11_carryOut_9 rfl rfl rfl ?_
      refine zp_al0 (q := 11) dX11_carryOut_10 rfl ?_
      refine zf_getG (v := 513) 9 (k1) (Hw.re) rfl fdX11_61 (q := 14) dX11_carryOut_11 rfl rfl ?_
      refine zf_getG (v := 516) 3 (k513) (h3) rfl fdX11_386 (q := 17) dX11_carryOut_14 rfl rfl ?_
      refine zr_iconst (q := 18) dX11_carryOut_17 rfl (z_in_of rfl) ?_
      refine zf_iald (v := M 516 1) (k516) (rfl) (q := 19) dX11_carryOut_18 rfl (by omega) (by omega) ?_
      refine zp_is2 (q := 20) dX11_carryOut_19 rfl rfl rfl ?_
      refine zr_gets (v := (1, -21)) (Cn := "WindElection$1") (n := "$SwitchMap$WindElection$Word") (d := "[I") (fun C s h => zs_SW h) (fun _ => z_in_of rfl) (z_all_in (i := 1176) (by decide +kernel) (by decide +kernel)) dX11_carryOut_20 rfl ?_
      refine zp_al0 (q := 24) dX11_carryOut_23 rfl ?_
      refine zf_getG (v := 513) 9 (k1) (Hw.re) rfl fdX11_61 (q := 27) dX11_carryOut_24 rfl rfl ?_
      refine zf_getG (v := -((11 + 7 : Nat) : Int)) 2 (k513) (by rw [h2, e]; rfl) rfl fdX11_392 (q := 30) dX11_carryOut_27 rfl rfl ?_
      refine zr_ordW (i := 7) (q := 33) (by decide) rfl rfl dX11_carryOut_30 rfl rfl rfl rfl ?_
      refine zr_mapW (q := 34) dX11_carryOut_33 rfl (by decide) (by decide) ?_
      refine zr_tableIn (q := 139) (off := 105) dX11_carryOut_34 (by decide) (by decide) rfl (by decide) ?_
      refine zp_al0 (q := 140) dX11_carryOut_139 rfl ?_
      refine zf_callV0 (k1) (s_X11_seatWinner_x Hw R hG Hc Hp hs) mtX11_seatWinner wiX11_seatWinner weX11_seatWinner wlX11_237 (q := 143) dX11_carryOut_140 rfl rfl rfl rfl rfl rfl rfl (fun r S9 M9 h8 hP => ?_) (fun k S9 M9 hP => (z_no hP.1 rfl).elim)
      obtain ⟨rfl, rfl, hK⟩ := hP
      refine zr_areturn dX11_carryOut_143 rfl (Or.inl ⟨_, rfl⟩) ?_
      exact hx (fun h => h hs) _ M9 (by decide) (R.h.of (fun z a b => hK.1 z (by omega))) (fun z _ b => hK.1 z b) hK.2.1 hK.2.2
    · skip
      refine zp_al0 (q := 1) dX11_carryOut_0 rfl ?_
      refine zf_getG (v := 513) 9 (k1) (Hw.re) rfl fdX11_61 (q := 4) dX11_carryOut_1 rfl rfl ?_
      refine zf_getG (v := 516) 3 (k513) (h3) rfl fdX11_386 (q := 7) dX11_carryOut_4 rfl rfl ?_
      refine zr_iconst (q := 8) dX11_carryOut_7 rfl (z_in_of rfl) ?_
      refine zf_iald (v := M 516 0) (k516) (rfl) (q := 9) dX11_carryOut_8 rfl (by omega) (by omega) ?_
      refine zp_is1 (q := 10) dX11_carryOut_9 rfl rfl rfl ?_
      refine zp_al0 (q := 11) dX11_carryOut_10 rfl ?_
      refine zf_getG (v := 513) 9 (k1) (Hw.re) rfl fdX11_61 (q := 14) dX11_carryOut_11 rfl rfl ?_
      refine zf_getG (v := 516) 3 (k513) (h3) rfl fdX11_386 (q := 17) dX11_carryOut_14 rfl rfl ?_
      refine zr_iconst (q := 18) dX11_carryOut_17 rfl (z_in_of rfl) ?_
      refine zf_iald (v := M 516 1) (k516) (rfl) (q := 19) dX11_carryOut_18 rfl (by omega) (by omega) ?_
      refine zp_is2 (q := 20) dX11_carryOut_19 rfl rfl rfl ?_
      refine zr_gets (v := (1, -21)) (Cn := "WindElection$1") (n := "$SwitchMap$WindElection$Word") (d := "[I") (fun C s h => zs_SW h) (fun _ => z_in_of rfl) (z_all_in (i := 1176) (by decide +kernel) (by decide +kernel)) dX11_carryOut_20 rfl ?_
      refine zp_al0 (q := 24) dX11_carryOut_23 rfl ?_
      refine zf_getG (v := 513) 9 (k1) (Hw.re) rfl fdX11_61 (q := 27) dX11_carryOut_24 rfl rfl ?_
      refine zf_getG (v := -((11 + 7 : Nat) : Int)) 2 (k513) (by rw [h2, e]; rfl) rfl fdX11_392 (q := 30) dX11_carryOut_27 rfl rfl ?_
      refine zr_ordW (i := 7) (q := 33) (by decide) rfl rfl dX11_carryOut_30 rfl rfl rfl rfl ?_
      refine zr_mapW (q := 34) dX11_carryOut_33 rfl (by decide) (by decide) ?_
      refine zr_tableIn (q := 139) (off := 105) dX11_carryOut_34 (by decide) (by decide) rfl (by decide) ?_
      refine zp_al0 (q := 140) dX11_carryOut_139 rfl ?_
      refine zf_callV0 (k1) (s_X11_seatWinner Hw R hG Hc Hp hs) mtX11_seatWinner wiX11_seatWinner weX11_seatWinner wlX11_237 (q := 143) dX11_carryOut_140 rfl rfl rfl rfl rfl rfl rfl (fun r S9 M9 h8 hP => ?_) (fun k S9 M9 hP => (z_no hP.1 rfl).elim)
      obtain ⟨rfl, rfl, R9, F9, y1, y2, y3⟩ := hP
      refine zr_areturn dX11_carryOut_143 rfl (Or.inl ⟨_, rfl⟩) ?_
      exact hy hs M9 R9 F9 y1 y2
end ZX9
