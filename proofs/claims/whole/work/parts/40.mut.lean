/-! ===== what changes an assembly ===== -/
theorem z_up_ne {M : zM} {z j v a : Int} (h : a ≠ z) : z_up M z j v a = M a := by
  funext b
  unfold z_up
  rw [if_neg (fun c => h c.1)]
theorem z_up_sl {M : zM} {z j v k : Int} (h : k ≠ j) : z_up M z j v z k = M z k := by
  unfold z_up
  rw [if_neg (fun c => h c.2)]
theorem z_up_eq {M : zM} {z j v : Int} : z_up M z j v z j = v := by
  unfold z_up
  rw [if_pos ⟨rfl, rfl⟩]
def zSet (G : Int → Int) (i v : Int) : Int → Int := fun j => if j = i then v else G j
def gAdd (G : Int → Int) : Int → Int := zSet (zSet G (4 + G 0) 0) 0 (G 0 + 1)
def gGo (G : Int → Int) (w : Int) : Int → Int := zSet G (4 + w) 1
def gBal (G : Int → Int) (x f : Int) : Int → Int := fun j => if j = 1 then G 1 + 1 else if 20 + 7 * G 1 ≤ j ∧ j < 27 + 7 * G 1 then (if j = 20 + 7 * G 1 then x else if j = 20 + 7 * G 1 + 1 then 1 else if j = 20 + 7 * G 1 + 2 then f else 0) else G j
def gRank (G : Int → Int) (b w : Int) : Int → Int := zSet (zSet G (20 + 7 * b + 2 + G (20 + 7 * b + 1)) w) (20 + 7 * b + 1) (G (20 + 7 * b + 1) + 1)
def gRem (G : Int → Int) (b : Int) : Int → Int := fun j => if j = 1 then G 1 - 1 else if 20 + 7 * b ≤ j ∧ j < 20 + 7 * (G 1 - 1) then G (j + 7) else if 20 + 7 * (G 1 - 1) ≤ j ∧ j < 27 + 7 * (G 1 - 1) then 0 else G j
def gRec (G : Int → Int) (b x : Int) : Int → Int := zSet G (20 + 7 * b) x
def gSpin (G : Int → Int) (s : Int) : Int → Int := zSet G 2 s
def gSeat (G : Int → Int) (w : Int) : Int → Int := zSet (zSet (zSet G (4 + w) 2) (12 + G 3) w) 3 (G 3 + 1)
abbrev zpA (r : zV) (a : Int) (G : Int → Int) (M : zM) : zV → zS → zM → Prop := fun r' S' M' => r' = r ∧ S' = zF ∧ zAR M' a G ∧ ∀ z, z < a ∨ a + 44 ≤ z → M' z = M z
section ZK
variable {M M' : zM} {a : Int} {G G' : Int → Int}
theorem zWF.top (hG : zWF G) (hb : ∀ j, 20 ≤ j → G' j = G j) (h1 : G' 1 = G 1) (h0 : G 0 ≤ G' 0 ∧ G' 0 ≤ 8) (h2 : 0 ≤ G' 2 ∧ G' 2 < 16) (h3 : G' 3 = zU (fun w => if G' (4 + w) = 2 then 1 else 0) (G' 0)) (ht : ∀ w, 0 ≤ w → w < G' 0 → 0 ≤ G' (4 + w) ∧ G' (4 + w) ≤ 2) : zWF G' := by
  have hw := hG.w
  have h4 := zU_le (f := fun w => if G' (4 + w) = 2 then 1 else 0) (n := G' 0) (lo := 0) (hi := 1) (by omega) (fun k _ _ => by split <;> omega)
  refine ⟨by omega, by rw [h1]; exact hG.n, h2, ⟨by omega, h3⟩, ht, fun i i0 i1 => ?_⟩
  rw [h1] at i1
  refine ⟨by rw [hb _ (by omega)]; exact hG.wt i0 i1, by rw [hb _ (by omega)]; exact hG.sz i0 i1, fun j j0 j1 => ?_⟩
  rw [hb _ (by omega)] at j1
  rw [hb _ (by omega)]
  have := hG.rk i0 i1 j j0 j1
  omega
theorem zWF.bal (hG : zWF G) (ht : ∀ j, 0 ≤ j → j < 20 → j ≠ 1 → G' j = G j) (h1 : 0 ≤ G' 1 ∧ G' 1 ≤ 20) (hb : ∀ i, 0 ≤ i → i < G' 1 → (1 ≤ G' (20 + 7 * i) ∧ G' (20 + 7 * i) ≤ 99) ∧ (1 ≤ G' (20 + 7 * i + 1) ∧ G' (20 + 7 * i + 1) ≤ 5) ∧ ∀ j, 0 ≤ j → j < G' (20 + 7 * i + 1) → 0 ≤ G' (20 + 7 * i + 2 + j) ∧ G' (20 + 7 * i + 2 + j) < G 0) : zWF G' := by
  have hw := hG.w
  have e0 := ht 0 (by omega) (by omega) (by omega)
  refine ⟨by rw [e0]; exact hG.w, h1, by rw [ht 2 (by omega) (by omega) (by omega)]; exact hG.sp, ?_, fun w w0 w1 => ?_, fun i i0 i1 => ?_⟩
  · rw [ht 3 (by omega) (by omega) (by omega), e0, zU_congr (g := fun w => if G (4 + w) = 2 then 1 else 0) hw.1 (fun k k0 k1 => by rw [ht _ (by omega) (by omega) (by omega)])]
    exact hG.s
  · rw [e0] at w1
    rw [ht _ (by omega) (by omega) (by omega)]
    exact hG.tg w w0 w1
  · rw [e0]
    exact hb i i0 i1
theorem zWF.add (hG : zWF G) (h : G 0 < 8) : zWF (gAdd G) := by
  have hw := hG.w
  have h3 := hG.s
  refine hG.top (fun j hj => by unfold gAdd zSet; omega) (by unfold gAdd zSet; omega) (by unfold gAdd zSet; omega) (by have := hG.sp; unfold gAdd zSet; omega) ?_ (fun w w0 w1 => ?_)
  · have e : gAdd G 0 = G 0 + 1 := by unfold gAdd zSet; omega
    have e3 : gAdd G 3 = G 3 := by unfold gAdd zSet; omega
    have e4 : gAdd G (4 + G 0) = 0 := by unfold gAdd zSet; omega
    rw [e, zU_s _ hw.1, e3, e4, zU_congr (g := fun w => if G (4 + w) = 2 then 1 else 0) hw.1 (fun k k0 k1 => by
      have : gAdd G (4 + k) = G (4 + k) := by unfold gAdd zSet; omega
      rw [this])]
    rw [if_neg (by omega)]
    omega
  · have := hG.tg w w0
    unfold gAdd zSet at w1 ⊢
    omega
theorem zWF.go (hG : zWF G) {w : Int} (h0 : 0 ≤ w) (h1 : w < G 0) (h2 : G (4 + w) = 0) : zWF (gGo G w) := by
  have hw := hG.w
  have h3 := hG.s
  refine hG.top (fun j hj => by unfold gGo zSet; omega) (by unfold gGo zSet; omega) (by unfold gGo zSet; omega) (by have := hG.sp; unfold gGo zSet; omega) ?_ (fun v v0 v1 => ?_)
  · have e : gGo G w 0 = G 0 := by unfold gGo zSet; omega
    have e3 : gGo G w 3 = G 3 := by unfold gGo zSet; omega
    have e4 : ∀ k, 0 ≤ k → k < G 0 → gGo G w (4 + k) = if k = w then 1 else G (4 + k) := fun k k0 k1 => by unfold gGo zSet; omega
    rw [e, e3, zU_congr (g := fun w => if G (4 + w) = 2 then 1 else 0) hw.1 (fun k k0 k1 => by
      rw [e4 k k0 k1]
      by_cases e9 : k = w
      · rw [e9, if_pos rfl, if_neg (by omega), if_neg (by omega)]
      · rw [if_neg e9])]
    omega
  · have := hG.tg v v0
    unfold gGo zSet at v1 ⊢
    omega
theorem zWF.spin (hG : zWF G) {s : Int} (h0 : 0 ≤ s) (h1 : s < 16) : zWF (gSpin G s) := by
  have hw := hG.w
  have h3 := hG.s
  refine hG.top (fun j hj => by unfold gSpin zSet; omega) (by unfold gSpin zSet; omega) (by unfold gSpin zSet; omega) (by unfold gSpin zSet; omega) ?_ (fun v v0 v1 => ?_)
  · have e : gSpin G s 0 = G 0 := by unfold gSpin zSet; omega
    have e3 : gSpin G s 3 = G 3 := by unfold gSpin zSet; omega
    have e4 : ∀ k, 0 ≤ k → gSpin G s (4 + k) = G (4 + k) := fun k k0 => by unfold gSpin zSet; omega
    rw [e, e3, zU_congr (g := fun w => if G (4 + w) = 2 then 1 else 0) hw.1 (fun k k0 k1 => by rw [e4 k k0])]
    omega
  · have := hG.tg v v0
    unfold gSpin zSet at v1 ⊢
    omega
theorem zWF.give (hG : zWF G) {w : Int} (h0 : 0 ≤ w) (h1 : w < G 0) (h2 : G (4 + w) = 0) : zWF (gSeat G w) := by
  have hw := hG.w
  have h3 := hG.s
  have h7 := hG.s7 h0 h1 h2
  refine hG.top (fun j hj => by unfold gSeat zSet; omega) (by unfold gSeat zSet; omega) (by unfold gSeat zSet; omega) (by have := hG.sp; unfold gSeat zSet; omega) ?_ (fun v v0 v1 => ?_)
  · have e : gSeat G w 0 = G 0 := by unfold gSeat zSet; omega
    have e3 : gSeat G w 3 = G 3 + 1 := by unfold gSeat zSet; omega
    have e4 : ∀ k, 0 ≤ k → k < G 0 → gSeat G w (4 + k) = if k = w then 2 else G (4 + k) := fun k k0 k1 => by unfold gSeat zSet; omega
    have e5 := zU_up (f := fun k => if gSeat G w (4 + k) = 2 then 1 else 0) (g := fun k => if G (4 + k) = 2 then 1 else 0) h0 h1 (fun k k0 k1 e9 => by rw [e4 k k0 k1, if_neg e9])
    rw [e, e3, e5, e4 w h0 h1, if_pos rfl, if_pos rfl, if_neg (by omega)]
    omega
  · have := hG.tg v v0
    unfold gSeat zSet at v1 ⊢
    omega
theorem zWF.ball (hG : zWF G) (h : G 1 < 20) {x f : Int} (hx : 1 ≤ x ∧ x ≤ 99) (hf : 0 ≤ f ∧ f < G 0) : zWF (gBal G x f) := by
  have hn := hG.n
  refine hG.bal (fun j j0 j1 j2 => by unfold gBal; omega) (by unfold gBal; omega) (fun i i0 i1 => ?_)
  have i2 : i < G 1 + 1 := by unfold gBal at i1; omega
  by_cases e : i = G 1
  · subst e
    have a0 : gBal G x f (20 + 7 * G 1) = x := by unfold gBal; omega
    have a1 : gBal G x f (20 + 7 * G 1 + 1) = 1 := by unfold gBal; omega
    rw [a0, a1]
    refine ⟨hx, by omega, fun j j0 j1 => ?_⟩
    rw [show j = 0 by omega, Int.add_zero]
    have a2 : gBal G x f (20 + 7 * G 1 + 2) = f := by unfold gBal; omega
    rw [a2]
    exact hf
  · have a9 : ∀ k, 0 ≤ k → k < 7 → gBal G x f (20 + 7 * i + k) = G (20 + 7 * i + k) := fun k k0 k1 => by unfold gBal; omega
    have a0 := a9 0 (by omega) (by omega)
    rw [Int.add_zero] at a0
    rw [a0, a9 1 (by omega) (by omega)]
    have hz := hG.sz i0 (show i < G 1 by omega)
    refine ⟨hG.wt i0 (by omega), hz, fun j j0 j1 => ?_⟩
    rw [Int.add_assoc (20 + 7 * i) 2 j, a9 (2 + j) (by omega) (by omega), ← Int.add_assoc (20 + 7 * i) 2 j]
    exact hG.rk i0 (by omega) j j0 j1
theorem zWF.rec (hG : zWF G) {b x : Int} (h0 : 0 ≤ b) (h1 : b < G 1) (hx : 1 ≤ x ∧ x ≤ 99) : zWF (gRec G b x) := by
  have hn := hG.n
  refine hG.bal (fun j j0 j1 j2 => by unfold gRec zSet; omega) (by unfold gRec zSet; omega) (fun i i0 i1 => ?_)
  have i2 : i < G 1 := by unfold gRec zSet at i1; omega
  have a0 : gRec G b x (20 + 7 * i) = if i = b then x else G (20 + 7 * i) := by unfold gRec zSet; omega
  have a9 : ∀ k, 1 ≤ k → k < 7 → gRec G b x (20 + 7 * i + k) = G (20 + 7 * i + k) := fun k k0 k1 => by unfold gRec zSet; omega
  have hz := hG.sz i0 i2
  have hw := hG.wt i0 i2
  rw [a0, a9 1 (by omega) (by omega)]
  refine ⟨by split <;> omega, hz, fun j j0 j1 => ?_⟩
  rw [Int.add_assoc (20 + 7 * i) 2 j, a9 (2 + j) (by omega) (by omega), ← Int.add_assoc (20 + 7 * i) 2 j]
  exact hG.rk i0 i2 j j0 j1
theorem zWF.rank (hG : zWF G) {b w : Int} (h0 : 0 ≤ b) (h1 : b < G 1) (h5 : G (20 + 7 * b + 1) < 5) (hw : 0 ≤ w ∧ w < G 0) : zWF (gRank G b w) := by
  have hn := hG.n
  have hzb := hG.sz h0 h1
  refine hG.bal (fun j j0 j1 j2 => by unfold gRank zSet; omega) (by unfold gRank zSet; omega) (fun i i0 i1 => ?_)
  have i2 : i < G 1 := by unfold gRank zSet at i1; omega
  have a9 : ∀ k, 0 ≤ k → k < 7 → i ≠ b → gRank G b w (20 + 7 * i + k) = G (20 + 7 * i + k) := fun k k0 k1 e => by unfold gRank zSet; omega
  have hz := hG.sz i0 i2
  have hwt := hG.wt i0 i2
  have hr := hG.rk i0 i2
  by_cases e : i = b
  · subst e
    have a0 : gRank G i w (20 + 7 * i) = G (20 + 7 * i) := by unfold gRank zSet; omega
    have a1 : gRank G i w (20 + 7 * i + 1) = G (20 + 7 * i + 1) + 1 := by unfold gRank zSet; omega
    rw [a0, a1]
    refine ⟨hwt, by omega, fun j j0 j1 => ?_⟩
    by_cases e2 : j = G (20 + 7 * i + 1)
    · have a2 : gRank G i w (20 + 7 * i + 2 + j) = w := by rw [e2]; unfold gRank zSet; omega
      rw [a2]
      exact hw
    · have a2 : gRank G i w (20 + 7 * i + 2 + j) = G (20 + 7 * i + 2 + j) := by unfold gRank zSet; omega
      rw [a2]
      exact hr j j0 (by omega)
  · have a0 := a9 0 (by omega) (by omega) e
    rw [Int.add_zero] at a0
    rw [a0, a9 1 (by omega) (by omega) e]
    refine ⟨hwt, hz, fun j j0 j1 => ?_⟩
    rw [Int.add_assoc (20 + 7 * i) 2 j, a9 (2 + j) (by omega) (by omega) e, ← Int.add_assoc (20 + 7 * i) 2 j]
    exact hr j j0 j1
theorem gRem_row (hG : zWF G) {b i : Int} (h0 : 0 ≤ b) (h1 : b < G 1) (i0 : 0 ≤ i) (i1 : i < G 1 - 1) (k : Int) (k0 : 0 ≤ k) (k1 : k < 7) : gRem G b (20 + 7 * i + k) = G (20 + 7 * (if i < b then i else i + 1) + k) := by
  have hn := hG.n
  unfold gRem
  rw [if_neg (by omega)]
  by_cases e : i < b
  · rw [if_neg (by omega), if_neg (by omega), if_pos e]
  · rw [if_pos (by omega), if_neg e]
    congr 1
    omega
theorem zWF.rem (hG : zWF G) {b : Int} (h0 : 0 ≤ b) (h1 : b < G 1) : zWF (gRem G b) := by
  have hn := hG.n
  have e1 : gRem G b 1 = G 1 - 1 := by unfold gRem; rw [if_pos rfl]
  refine hG.bal (fun j j0 j1 j2 => by unfold gRem; rw [if_neg j2, if_neg (by omega), if_neg (by omega)]) (by rw [e1]; omega) (fun i i0 i1 => ?_)
  rw [e1] at i1
  have a9 := gRem_row hG h0 h1 i0 i1
  generalize hi9 : (if i < b then i else i + 1) = i9 at a9
  have b0 : 0 ≤ i9 := by rw [← hi9]; split <;> omega
  have b1 : i9 < G 1 := by rw [← hi9]; split <;> omega
  have a0 := a9 0 (by omega) (by omega)
  rw [Int.add_zero, Int.add_zero] at a0
  rw [a0, a9 1 (by omega) (by omega)]
  have hz := hG.sz b0 b1
  refine ⟨hG.wt b0 b1, hz, fun j j0 j1 => ?_⟩
  rw [Int.add_assoc (20 + 7 * i) 2 j, a9 (2 + j) (by omega) (by omega), ← Int.add_assoc (20 + 7 * i9) 2 j]
  exact hG.rk b0 b1 j j0 j1
/-- only what stands in the assembly's own fields and its two rows of winds has changed -/
theorem zAR.top (hG : zWF G) (R : zAR M a G) (hM : ∀ z, a + 3 ≤ z → z < a + 44 → M' z = M z) (hb : ∀ j, 20 ≤ j → G' j = G j) (h1 : G' 1 = G 1) (hz : ∀ w, 0 ≤ w → w < 8 → M' (a + 1) w = 0 ∨ M' (a + 1) w = 1) (p1 : M' a 1 = M a 1) (p2 : M' a 2 = M a 2) (p3 : M' a 5 = M a 5) (c0 : M' a 0 = G' 0) (c3 : M' a 3 = G' 3) (c4 : M' a 4 = M a 4) (c6 : M' a 6 = G' 2)
    (st : ∀ w, 0 ≤ w → w < G' 0 → M' (a + 1) w = if G' (4 + w) = 0 then 1 else 0) (se : zSeat M' a G') : zAR M' a G' := by
  have hn := hG.n
  have e3 := hM (a + 3) (by omega) (by omega)
  refine ⟨⟨p1.trans R.h.p1, p2.trans R.h.p2, p3.trans R.h.p3, fun i i0 i1 => by rw [e3]; exact R.h.bl i0 i1, fun i j i0 i1 j0 j1 e => by rw [e3] at e; exact R.h.inj i0 i1 j0 j1 e, fun b hb9 => ?_, hz⟩, c0, c3, by rw [c4, h1]; exact R.n, c6, st, se, fun i i0 i1 => ?_⟩
  · have hb2 := id hb9
    unfold zBl at hb2
    rw [hM b (by omega) (by omega)]
    exact R.h.bp hb9
  · rw [h1] at i1
    have hb2 := R.h.bl i0 (show i < 20 by omega)
    unfold zBl at hb2
    rw [e3, hM (M (a + 3) i) (by omega) (by omega), hM (M (a + 3) i + 1) (by omega) (by omega), hb _ (by omega), hb _ (by omega)]
    exact ⟨R.bw i0 i1, R.bn i0 i1, fun j j0 j1 => by rw [hb _ (by omega)]; exact R.bj i0 i1 j j0 j1⟩
/-- only ballots have changed -/
theorem zAR.bal (hG : zWF G) (R : zAR M a G) (hp : zHa M' a) (ht : ∀ j, 0 ≤ j → j < 20 → j ≠ 1 → G' j = G j) (c0 : M' a 0 = M a 0) (c3 : M' a 3 = M a 3) (c6 : M' a 6 = M a 6) (e1 : M' (a + 1) = M (a + 1)) (e2 : M' (a + 2) = M (a + 2)) (hn : M' a 4 = G' 1)
    (hb : ∀ i, 0 ≤ i → i < G' 1 → M' (M' (a + 3) i) 0 = G' (20 + 7 * i) ∧ M' (M' (a + 3) i) 1 = G' (20 + 7 * i + 1) ∧ ∀ j, 0 ≤ j → j < G' (20 + 7 * i + 1) → M' (M' (a + 3) i + 1) j = G' (20 + 7 * i + 2 + j)) : zAR M' a G' := by
  have hw := hG.w
  have h8 := hG.s8
  have h3 := hG.s
  have t0 := ht 0 (by omega) (by omega) (by omega)
  have t3 := ht 3 (by omega) (by omega) (by omega)
  refine ⟨hp, by rw [c0, t0]; exact R.w, by rw [c3, t3]; exact R.s, hn, by rw [c6, ht 2 (by omega) (by omega) (by omega)]; exact R.sp, fun w w0 w1 => ?_, ⟨fun w w0 w1 => ?_, fun s s0 s1 => ?_⟩, hb⟩
  · rw [t0] at w1
    rw [e1, ht _ (by omega) (by omega) (by omega)]
    exact R.st w0 w1
  · rw [t0] at w1
    have := R.seat.1 w w0 w1
    rw [e2, ht (4 + w) (by omega) (by omega) (by omega), t3]
    refine ⟨this.1, fun h => ?_⟩
    have h9 := this.2 h
    refine ⟨h9.1, h9.2.1, ?_⟩
    rw [ht _ (by omega) (by omega) (by omega)]
    exact h9.2.2
  · rw [t3] at s1
    have := R.seat.2 s s0 s1
    rw [e2, ht (12 + s) (by omega) (by omega) (by omega), t0, ht (4 + G (12 + s)) (by omega) (by omega) (by omega)]
    exact this
end ZK
