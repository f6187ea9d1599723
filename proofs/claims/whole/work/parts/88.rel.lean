/-! dep: 87 -/
/-! ===== what class and reference have in common ===== -/
section ZREL
variable {M M' N : zM} {G G' V : Int → Int} {s n e f : Int} {F : Int → Int → Int} {L B : List Int}
def zE160 (G G' : Int → Int) : Prop := ∀ j, 0 ≤ j → j < 160 → G' j = G j
theorem zWF.cong (hG : zWF G) (h : zE160 G G') : zWF G' := by
  have hw := hG.w
  have hn := hG.n
  have e0 := h 0 (by decide) (by decide)
  have e1 := h 1 (by decide) (by decide)
  have e2 := h 2 (by decide) (by decide)
  have e3 := h 3 (by decide) (by decide)
  refine ⟨by rw [e0]; exact hG.w, by rw [e1]; exact hG.n, by rw [e2]; exact hG.sp, ?_, fun w w0 w1 => ?_, fun i i0 i1 => ?_⟩
  · rw [e3, e0, zU_congr (g := fun w => if G (4 + w) = 2 then 1 else 0) hw.1 (fun k k0 k1 => by rw [h (4 + k) (by omega) (by omega)])]
    exact hG.s
  · rw [e0] at w1
    rw [h (4 + w) (by omega) (by omega)]
    exact hG.tg w w0 w1
  · rw [e1] at i1
    have hs := hG.sz i0 i1
    rw [h (20 + 7 * i) (by omega) (by omega), h (20 + 7 * i + 1) (by omega) (by omega), e0]
    refine ⟨hG.wt i0 i1, hs, fun j j0 j1 => ?_⟩
    rw [h (20 + 7 * i + 2 + j) (by omega) (by omega)]
    exact hG.rk i0 i1 j j0 j1
theorem zAR.cong {a : Int} (hG : zWF G) (R : zAR M a G) (h : zE160 G G') : zAR M a G' := by
  have hw := hG.w
  have hn := hG.n
  have h8 := hG.s8
  have e0 := h 0 (by decide) (by decide)
  have e1 := h 1 (by decide) (by decide)
  have e2 := h 2 (by decide) (by decide)
  have e3 := h 3 (by decide) (by decide)
  refine ⟨R.h, by rw [e0]; exact R.w, by rw [e3]; exact R.s, by rw [e1]; exact R.n, by rw [e2]; exact R.sp, fun w w0 w1 => ?_, ⟨fun w w0 w1 => ?_, fun j j0 j1 => ?_⟩, fun i i0 i1 => ?_⟩
  · rw [e0] at w1
    rw [h (4 + w) (by omega) (by omega)]
    exact R.st w0 w1
  · rw [e0] at w1
    rw [h (4 + w) (by omega) (by omega), e3]
    have g := R.seat.1 w w0 w1
    refine ⟨g.1, fun c => ?_⟩
    have g2 := g.2 c
    refine ⟨g2.1, g2.2.1, ?_⟩
    rw [h (12 + M (a + 2) w) (by omega) (by omega)]
    exact g2.2.2
  · rw [e3] at j1
    have g := R.seat.2 j j0 j1
    rw [h (12 + j) (by omega) (by omega), e0, h (4 + G (12 + j)) (by omega) (by omega)]
    exact g
  · rw [e1] at i1
    have hs := hG.sz i0 i1
    rw [h (20 + 7 * i) (by omega) (by omega), h (20 + 7 * i + 1) (by omega) (by omega)]
    refine ⟨R.bw i0 i1, R.bn i0 i1, fun j j0 j1 => ?_⟩
    rw [h (20 + 7 * i + 2 + j) (by omega) (by omega)]
    exact R.bj i0 i1 j j0 j1
/-- the class's heap: row, saved or not, saved row, rows kept, line, buffer, error, failed -/
def zCP (M : zM) (G : Int → Int) (s : Int) (V : Int → Int) (n : Int) (F : Int → Int → Int) (L B : List Int) (e f : Int) : Prop :=
  zHw M ∧ zAR M 2 G ∧ zHa M 46 ∧ (zHa M 90 ∧ M 1 3 = s ∧ (s = 1 → zAR M 90 V)) ∧ (zHh M ∧ M 134 2 = n ∧ ∀ k, 0 ≤ k → k < n → zAR M (136 + 44 * ((M 134 1 + k) % 8)) (F k)) ∧ zHc M ∧ zHp M ∧ zTx M 511 L ∧ (zTx M 514 B ∧ M 513 0 = 514 ∧ M 513 3 = 516) ∧ M 1 10 = e ∧ M 1 11 = f
/-- the reference's -/
def zMP (M : zM) (G : Int → Int) (s : Int) (V : Int → Int) (n : Int) (F : Int → Int → Int) (L B : List Int) (e f : Int) : Prop :=
  zHm M ∧ M 518 = G ∧ (M 517 4 = s ∧ ∀ j, 0 ≤ j → j < 160 → M 520 j = V j) ∧ (M 517 5 = n ∧ ∀ k j, 0 ≤ k → k < n → 0 ≤ j → j < 160 → M 519 (160 * k + j) = F k j) ∧ zTy M L ∧ zTi9 M B ∧ M 517 10 = e ∧ M 517 11 = f ∧ M 517 6 = 0
def zWS (G : Int → Int) (s : Int) (V : Int → Int) (n : Int) (F : Int → Int → Int) (L B : List Int) (e f : Int) : Prop :=
  zWF G ∧ (s = 0 ∨ s = 1) ∧ (s = 1 → zWF V) ∧ (0 ≤ n ∧ n ≤ 8) ∧ (∀ k, 0 ≤ k → k < n → zWF (F k)) ∧ (L.length ≤ 60 ∧ ∀ x ∈ L, 0 ≤ x ∧ x < 65536) ∧ (B.length ≤ 60 ∧ ∀ x ∈ B, 32 ≤ x ∧ x ≤ 126) ∧ -1 ≤ e ∧ -1 ≤ f
def zRl (M : zM) : Prop := ∃ G s V n F L B e f, zCP M G s V n F L B e f ∧ zMP M G s V n F L B e f ∧ zWS G s V n F L B e f
def hN (n : Int) : Int := if n < 8 then n + 1 else 8
def hF (n : Int) (F : Int → Int → Int) (G : Int → Int) : Int → Int → Int := fun k => if n < 8 then (if k = n then G else F k) else (if k = 7 then G else F (k + 1))
theorem zTx.oz {t : Int} (h : zTx M t L) (e0 : ∀ z, t ≤ z → z ≤ t + 1 → M' z = M z) : zTx M' t L := h.of (e0 t (by omega) (by omega)) (e0 (t + 1) (by omega) (by omega))
theorem zHi.of (w : zWS G s V n F L B e f) (h : zHh M ∧ M 134 2 = n ∧ ∀ k, 0 ≤ k → k < n → zAR M (136 + 44 * ((M 134 1 + k) % 8)) (F k)) (e9 : ∀ z, 134 ≤ z → z < 488 → M' z = M z) : zHh M' ∧ M' 134 2 = n ∧ ∀ k, 0 ≤ k → k < n → zAR M' (136 + 44 * ((M' 134 1 + k) % 8)) (F k) := by
  refine ⟨h.1.of e9, by rw [e9 134 (by decide) (by decide)]; exact h.2.1, fun k k0 k1 => ?_⟩
  rw [e9 134 (by decide) (by decide)]
  exact (h.2.2 k k0 k1).of (w.2.2.2.2.1 k k0 k1) (fun z a b => e9 z (by omega) (by omega))
theorem zCP.of (h : zCP M G s V n F L B e f) (w : zWS G s V n F L B e f) (e9 : ∀ z, 1 ≤ z → z ≤ 516 → z ≠ 510 → M' z = M z) : zCP M' G s V n F L B e f := by
  obtain ⟨h1, h2, h3, ⟨h4, h5, h6⟩, h7, h8, h10, h11, ⟨h12, h13, h14⟩, h15, h16⟩ := h
  have e1 := e9 1 (by decide) (by decide) (by decide)
  refine ⟨h1.of e1, h2.of w.1 (fun z a b => e9 z (by omega) (by omega) (by omega)), h3.of (fun z a b => e9 z (by omega) (by omega) (by omega)), ⟨h4.of (fun z a b => e9 z (by omega) (by omega) (by omega)), by rw [e1]; exact h5, fun c => (h6 c).of (w.2.2.1 c) (fun z a b => e9 z (by omega) (by omega) (by omega))⟩, zHi.of w h7 (fun z a b => e9 z (by omega) (by omega) (by omega)), h8.of (fun z a b => e9 z (by omega) (by omega) (by omega)), h10.of (fun z a b => e9 z (by omega) (by omega) (by omega)), h11.oz (fun z a b => e9 z (by omega) (by omega) (by omega)), ⟨h12.oz (fun z a b => e9 z (by omega) (by omega) (by omega)), ?_, ?_⟩, by rw [e1]; exact h15, by rw [e1]; exact h16⟩
  · rw [e9 513 (by decide) (by decide) (by decide)]; exact h13
  · rw [e9 513 (by decide) (by decide) (by decide)]; exact h14
theorem zMP.of (h : zMP M G s V n F L B e f) (e9 : ∀ z, 517 ≤ z → z ≤ 528 → M' z = M z) : zMP M' G s V n F L B e f := by
  obtain ⟨h1, h2, h3, h4, h5, h6, h7⟩ := h
  unfold zMP zHm zTy zTi9
  rw [e9 517 (by decide) (by decide), e9 518 (by decide) (by decide), e9 519 (by decide) (by decide), e9 520 (by decide) (by decide), e9 522 (by decide) (by decide), e9 523 (by decide) (by decide)]
  exact ⟨h1, h2, h3, h4, h5, h6, h7⟩
theorem zCP.cong (h : zCP M G s V n F L B e f) (w : zWS G s V n F L B e f) (hE : zE160 G G') : zCP M G' s V n F L B e f := by
  obtain ⟨h1, h2, h3⟩ := h
  exact ⟨h1, h2.cong w.1 hE, h3⟩
theorem zWS.cong (w : zWS G s V n F L B e f) (hE : zE160 G G') : zWS G' s V n F L B e f := ⟨w.1.cong hE, w.2⟩
theorem zWS.push (w : zWS G s V n F L B e f) (hG' : zWF G') : zWS G' s V (hN n) (hF n F G) L B e f := by
  obtain ⟨w1, w2, w3, w4, w5, w6⟩ := w
  refine ⟨hG', w2, w3, ?_, fun k k0 k1 => ?_, w6⟩
  · unfold hN
    split <;> omega
  · unfold hF
    unfold hN at k1
    by_cases c : n < 8
    · rw [if_pos c] at k1 ⊢
      by_cases c2 : k = n
      · rw [if_pos c2]; exact w1
      · rw [if_neg c2]; exact w5 k k0 (by omega)
    · rw [if_neg c] at k1 ⊢
      by_cases c2 : k = 7
      · rw [if_pos c2]; exact w1
      · rw [if_neg c2]; exact w5 (k + 1) (by omega) (by omega)
/-! outcomes -/
def yCo (M : zM) (v : zV) (G : Int → Int) (s : Int) (V : Int → Int) (n : Int) (F : Int → Int → Int) (L B : List Int) (e f : Int) : zV → zS → zM → Prop := fun r S' M' => r = v ∧ S' = zF ∧ zCP M' G s V n F L B e f ∧ ∀ z, 517 ≤ z → M' z = M z
def zWo (M : zM) (k : Int) (y x : Int) (G : Int → Int) (s : Int) (V : Int → Int) (n : Int) (F : Int → Int → Int) (L B : List Int) (e f : Int) : zV → zS → zM → Prop := fun r S' M' => r = (0, k) ∧ S' = zF ∧ zCP M' G s V n F L B e f ∧ (∀ z, 517 ≤ z → z < 529 → M' z = M z) ∧ (k = 0 → M' y 0 = x)
def zMo (N : zM) (t : Nat) (k x : Int) (G : Int → Int) (s : Int) (V : Int → Int) (n : Int) (F : Int → Int → Int) (L B : List Int) (e f : Int) : zV → zS → zM → Prop := fun r S' M2 => S' = zF ∧ (∃ b, r = (t, b) ∧ (k = 0 → b = x)) ∧ (∃ G2, zE160 G G2 ∧ zMP M2 G2 s V n F L B e f) ∧ (∀ z, z < 517 ∨ 528 < z → M2 z = N z) ∧ M2 517 7 = k
section ZREL2
variable {Y : zY} {as : List zV}
theorem ca_r (h : zCP M G s V n F L B e f) {t : Nat} {x : Int} (hc : z_Call Y zF as M (zpF t x M)) : z_Call Y zF as M (yCo M (t, x) G s V n F L B e f) := z_call_mono hc (fun r S' M' q => ⟨q.1, q.2.1, by rw [q.2.2]; exact h, fun z _ => by rw [q.2.2]⟩)
theorem ca_g {A : zM → Prop} {v : zV} (hc : z_Call Y zF as M (fun r S' M' => r = v ∧ S' = zF ∧ A M')) (h : ∀ M', A M' → zCP M' G s V n F L B e f ∧ ∀ z, 517 ≤ z → M' z = M z) : z_Call Y zF as M (yCo M v G s V n F L B e f) := z_call_mono hc (fun r S' M' q => ⟨q.1, q.2.1, h M' q.2.2⟩)
theorem ca_K (h : zCP M G s V n F L B e f) (w : zWS G s V n F L B e f) {v : zV} (hc : z_Call Y zF as M (fun r S' M' => r = v ∧ S' = zF ∧ zKt M M')) : z_Call Y zF as M (yCo M v G s V n F L B e f) := ca_g hc (fun M' q => by
  obtain ⟨h1, h2, h3, ⟨h4, h5, h6⟩, h7, h8, h10, h11, ⟨h12, h13, h14⟩, h15, h16⟩ := h
  obtain ⟨q1, q2, q3⟩ := q
  have e1 := q1 1 (by decide)
  refine ⟨⟨h1.of e1, h2.of w.1 (fun z a b => q1 z (by omega)), h3.of (fun z a b => q1 z (by omega)), ⟨h4.of (fun z a b => q1 z (by omega)), by rw [e1]; exact h5, fun c => (h6 c).of (w.2.2.1 c) (fun z a b => q1 z (by omega))⟩, zHi.of w h7 (fun z a b => q1 z (by omega)), q2, q3, h11.oz (fun z a b => q1 z (by omega)), ⟨h12.oz (fun z a b => q1 z (by omega)), by rw [q1 513 (by decide)]; exact h13, by rw [q1 513 (by decide)]; exact h14⟩, by rw [e1]; exact h15, by rw [e1]; exact h16⟩, fun z z0 => q1 z (by omega)⟩)
theorem ca_x (h : zCP M G s V n F L B e f) (w : zWS G s V n F L B e f) {v : zV} (hc : z_Call Y zF as M (fun r S' M' => r = v ∧ S' = zF ∧ zCx M M' G)) : z_Call Y zF as M (yCo M v G s V n F L B e f) := ca_g hc (fun M' q => by
  obtain ⟨h1, h2, h3, ⟨h4, h5, h6⟩, h7, h8, h10, h11, ⟨h12, h13, h14⟩, h15, h16⟩ := h
  obtain ⟨q2, q3, q1⟩ := q
  have e1 := q1 1 (by decide)
  refine ⟨⟨h1.of e1, q2, q3, ⟨h4.of (fun z a b => q1 z (by omega)), by rw [e1]; exact h5, fun c => (h6 c).of (w.2.2.1 c) (fun z a b => q1 z (by omega))⟩, zHi.of w h7 (fun z a b => q1 z (by omega)), h8.of (fun z a b => q1 z (by omega)), h10.of (fun z a b => q1 z (by omega)), h11.oz (fun z a b => q1 z (by omega)), ⟨h12.oz (fun z a b => q1 z (by omega)), by rw [q1 513 (by decide)]; exact h13, by rw [q1 513 (by decide)]; exact h14⟩, by rw [e1]; exact h15, by rw [e1]; exact h16⟩, fun z z0 => q1 z (by omega)⟩)
/-- the rows kept, with one more -/
theorem zHi.push (w : zWS G s V n F L B e f) (h : zHh M ∧ M 134 2 = n ∧ ∀ k, 0 ≤ k → k < n → zAR M (136 + 44 * ((M 134 1 + k) % 8)) (F k)) (hR : zRm M M' G) (e9 : ∀ z, 135 ≤ z → z < 488 → z < 136 + 44 * zNx M ∨ 180 + 44 * zNx M ≤ z → M' z = M z) : zHh M' ∧ M' 134 2 = hN n ∧ ∀ k, 0 ≤ k → k < hN n → zAR M' (136 + 44 * ((M' 134 1 + k) % 8)) (hF n F G k) := by
  obtain ⟨⟨h0, h1, h2, h3⟩, h4, h5⟩ := h
  obtain ⟨r0, r1, r2, r3⟩ := hR
  have hx : zNx M = (M 134 1 + M 134 2) % 8 := rfl
  have hHk : ∀ k, 0 ≤ k → k < 8 → zHa M' (136 + 44 * k) := by
    intro k k0 k1
    by_cases c : k = zNx M
    · rw [c]; exact r0.h
    · exact (h3 k k0 k1).2.of (fun z a b => e9 z (by omega) (by omega) (by omega))
  have h135 : M' 135 = M 135 := e9 135 (by decide) (by decide) (by omega)
  by_cases c : n < 8
  · obtain ⟨p1, p2⟩ := r2 (by omega)
    have hNn : hN n = n + 1 := if_pos c
    refine ⟨⟨by rw [r1]; exact h0, by rw [p1]; exact h1, by rw [p2]; omega, fun k k0 k1 => ⟨by rw [h135]; exact (h3 k k0 k1).1, hHk k k0 k1⟩⟩, by rw [p2, hNn]; omega, fun k k0 k1 => ?_⟩
    rw [hNn] at k1
    unfold hF
    rw [if_pos c, p1]
    by_cases c2 : k = n
    · rw [if_pos c2, c2, ← h4, ← hx]
      exact r0
    · rw [if_neg c2]
      exact (h5 k k0 (by omega)).of (w.2.2.2.2.1 k k0 (by omega)) (fun z a b => e9 z (by omega) (by omega) (by omega))
  · have c8 : n = 8 := by have := w.2.2.2.1; omega
    obtain ⟨p1, p2⟩ := r3 (by omega)
    have hNn : hN n = 8 := if_neg c
    refine ⟨⟨by rw [r1]; exact h0, by rw [p1]; omega, by rw [p2]; omega, fun k k0 k1 => ⟨by rw [h135]; exact (h3 k k0 k1).1, hHk k k0 k1⟩⟩, by rw [p2, hNn], fun k k0 k1 => ?_⟩
    rw [hNn] at k1
    unfold hF
    rw [if_neg c, p1]
    by_cases c2 : k = 7
    · rw [if_pos c2, c2, show ((M 134 1 + 1) % 8 + 7) % 8 = zNx M by omega]
      exact r0
    · rw [if_neg c2, show ((M 134 1 + 1) % 8 + k) % 8 = (M 134 1 + (k + 1)) % 8 by omega]
      exact (h5 (k + 1) (by omega) (by omega)).of (w.2.2.2.2.1 (k + 1) (by omega) (by omega)) (fun z a b => e9 z (by omega) (by omega) (by omega))
theorem ca_m (h : zCP M G s V n F L B e f) (w : zWS G s V n F L B e f) {v : zV} (hc : z_Call Y zF as M (fun r S' M' => r = v ∧ S' = zF ∧ zCm M M' G G')) : z_Call Y zF as M (yCo M v G' s V (hN n) (hF n F G) L B e f) := ca_g hc (fun M' q => by
  obtain ⟨h1, h2, h3, ⟨h4, h5, h6⟩, h7, h8, h10, h11, ⟨h12, h13, h14⟩, h15, h16⟩ := h
  obtain ⟨q2, q3, q4, q1⟩ := q
  have hx := zNx_range h7.1
  have e1 := q1 1 (by decide) (by decide) (by omega)
  refine ⟨⟨h1.of e1, q2, q3, ⟨h4.of (fun z a b => q1 z (by omega) (by omega) (by omega)), by rw [e1]; exact h5, fun c => (h6 c).of (w.2.2.1 c) (fun z a b => q1 z (by omega) (by omega) (by omega))⟩, zHi.push w h7 q4 (fun z a b c => q1 z (by omega) (by omega) c), h8.of (fun z a b => q1 z (by omega) (by omega) (by omega)), h10.of (fun z a b => q1 z (by omega) (by omega) (by omega)), h11.oz (fun z a b => q1 z (by omega) (by omega) (by omega)), ⟨h12.oz (fun z a b => q1 z (by omega) (by omega) (by omega)), by rw [q1 513 (by decide) (by decide) (by omega)]; exact h13, by rw [q1 513 (by decide) (by decide) (by omega)]; exact h14⟩, by rw [e1]; exact h15, by rw [e1]; exact h16⟩, fun z z0 => q1 z (by omega) (by omega) (by omega)⟩)
theorem ca_c (h : zCP M G s V n F L B e f) (w : zWS G s V n F L B e f) {v : zV} (hc : z_Call Y zF as M (fun r S' M' => r = v ∧ S' = zF ∧ zCc M M' G G')) : z_Call Y zF as M (yCo M v G' s V (hN n) (hF n F G) L B e f) := ca_g hc (fun M' q => by
  obtain ⟨h1, h2, h3, ⟨h4, h5, h6⟩, h7, h8, h10, h11, ⟨h12, h13, h14⟩, h15, h16⟩ := h
  obtain ⟨q2, q3, q4, q5, q6, q1⟩ := q
  have hx := zNx_range h7.1
  have e1 := q1 1 (by decide) (by decide) (by omega) (by decide)
  refine ⟨⟨h1.of e1, q2, q3, ⟨h4.of (fun z a b => q1 z (by omega) (by omega) (by omega) (by omega)), by rw [e1]; exact h5, fun c => (h6 c).of (w.2.2.1 c) (fun z a b => q1 z (by omega) (by omega) (by omega) (by omega))⟩, zHi.push w h7 q4 (fun z a b c => q1 z (by omega) (by omega) c (by omega)), q5, q6, h11.oz (fun z a b => q1 z (by omega) (by omega) (by omega) (by omega)), ⟨h12.oz (fun z a b => q1 z (by omega) (by omega) (by omega) (by omega)), by rw [q1 513 (by decide) (by decide) (by omega) (by decide)]; exact h13, by rw [q1 513 (by decide) (by decide) (by omega) (by decide)]; exact h14⟩, by rw [e1]; exact h15, by rw [e1]; exact h16⟩, fun z z0 => q1 z (by omega) (by omega) (by omega) (by omega)⟩)
/-- the reference's calls -/
theorem ma_g {A : zM → Prop} {t : Nat} {k x : Int} (hc : z_Call Y zF as N (fun r S' M' => r = (t, x) ∧ S' = zF ∧ A M')) (h : ∀ M', A M' → zMP M' G s V n F L B e f ∧ (∀ z, z < 517 ∨ 528 < z → M' z = N z) ∧ M' 517 7 = k) : z_Call Y zF as N (zMo N t k x G s V n F L B e f) := z_call_mono hc (fun r S' M' q => ⟨q.2.1, ⟨x, q.1, fun _ => rfl⟩, ⟨G, fun _ _ _ => rfl, (h M' q.2.2).1⟩, (h M' q.2.2).2⟩)
theorem ma_w {A : zM → Prop} {t : Nat} {k x y : Int} (hk : k ≠ 0) (hc : z_Call Y zF as N (fun r S' M' => r = (t, y) ∧ S' = zF ∧ A M')) (h : ∀ M', A M' → zMP M' G s V n F L B e f ∧ (∀ z, z < 517 ∨ 528 < z → M' z = N z) ∧ M' 517 7 = k) : z_Call Y zF as N (zMo N t k x G s V n F L B e f) := z_call_mono hc (fun r S' M' q => ⟨q.2.1, ⟨y, q.1, fun c => absurd c hk⟩, ⟨G, fun _ _ _ => rfl, (h M' q.2.2).1⟩, (h M' q.2.2).2⟩)
theorem zMP.c {k : Int} (h : zMP N G s V n F L B e f) : zMP (z_up N 517 7 k) G s V n F L B e f := h
theorem ma_A {k : Int} (h : zMP N G s V n F L B e f) : ∀ M', M' = z_up N 517 7 k → zMP M' G s V n F L B e f ∧ (∀ z, z < 517 ∨ 528 < z → M' z = N z) ∧ M' 517 7 = k := fun M' q => by
  rw [q]
  exact ⟨h.c, fun z hz => z_up_ne (by omega), z_up_eq⟩
theorem ma_C {k : Int} (h : zMP N G s V n F L B e f) : ∀ M', zcF N M' k → zMP M' G s V n F L B e f ∧ (∀ z, z < 517 ∨ 528 < z → M' z = N z) ∧ M' 517 7 = k := fun M' q => by
  obtain ⟨q1, q2, q3⟩ := q
  obtain ⟨h1, h2, h3, h4, h5, h6, h7⟩ := h
  refine ⟨⟨h1.of (fun j j0 j1 j2 j3 j4 => q2 j j1 j2 j3 j4), ?_, ?_, ?_, ?_, ?_, ?_⟩, fun z hz => q1 z (by omega) (by omega) (by omega) (by omega) (by omega), q3⟩
  · rw [q1 518 (by decide) (by decide) (by decide) (by decide) (by decide)]; exact h2
  · rw [q2 4 (by decide) (by decide) (by decide) (by decide), q1 520 (by decide) (by decide) (by decide) (by decide) (by decide)]; exact h3
  · rw [q2 5 (by decide) (by decide) (by decide) (by decide), q1 519 (by decide) (by decide) (by decide) (by decide) (by decide)]; exact h4
  · unfold zTy
    rw [q2 13 (by decide) (by decide) (by decide) (by decide), q1 523 (by decide) (by decide) (by decide) (by decide) (by decide)]; exact h5
  · unfold zTi9
    rw [q2 9 (by decide) (by decide) (by decide) (by decide), q1 522 (by decide) (by decide) (by decide) (by decide) (by decide)]; exact h6
  · rw [q2 10 (by decide) (by decide) (by decide) (by decide), q2 11 (by decide) (by decide) (by decide) (by decide), q2 6 (by decide) (by decide) (by decide) (by decide)]; exact h7
theorem ma_H {f9 : Int → Int} (w : zWS G s V n F L B e f) (h : N 517 5 = n ∧ ∀ k j, 0 ≤ k → k < n → 0 ≤ j → j < 160 → N 519 (160 * k + j) = F k j) (h6 : N 517 6 = 0) (hK : zKp N M' f9) (hf : ∀ j, 0 ≤ j → j < 160 → f9 j = G j) : M' 517 5 = hN n ∧ ∀ k j, 0 ≤ k → k < hN n → 0 ≤ j → j < 160 → M' 519 (160 * k + j) = hF n F G k j := by
  obtain ⟨h4, h5⟩ := h
  rcases hK with ⟨c, _⟩ | ⟨_, c1, c2, c3, c4⟩ | ⟨_, c1, c2, c3, c4⟩
  · exact absurd h6 c
  · have c8 : ¬ n < 8 := by omega
    have hNn : hN n = 8 := if_neg c8
    refine ⟨by rw [c2, hNn], fun k j k0 k1 j0 j1 => ?_⟩
    rw [hNn] at k1
    unfold hF
    rw [if_neg c8]
    by_cases c9 : k = 7
    · rw [if_pos c9, c9, ← hf j j0 j1]
      exact c4 j j0 j1
    · rw [if_neg c9, c3 _ (by omega) (by omega), show 160 * k + j + 160 = 160 * (k + 1) + j by omega]
      exact h5 (k + 1) j (by omega) (by omega) j0 j1
  · have c8 : n < 8 := by omega
    have hNn : hN n = n + 1 := if_pos c8
    refine ⟨by rw [c2, hNn, h4], fun k j k0 k1 j0 j1 => ?_⟩
    rw [hNn] at k1
    unfold hF
    rw [if_pos c8]
    by_cases c9 : k = n
    · rw [if_pos c9, c9, ← hf j j0 j1, ← h4]
      exact c4 j j0 j1
    · rw [if_neg c9, c3 _ (by omega)]
      exact h5 k j k0 (by omega) j0 j1
theorem ma_M (w : zWS G s V n F L B e f) (h : zMP N G s V n F L B e f) : ∀ M', (zMF N M' ∧ M' 517 7 = 0 ∧ zKp N M' (N 518) ∧ M' 518 = G') → zMP M' G' s V (hN n) (hF n F G) L B e f ∧ (∀ z, z < 517 ∨ 528 < z → M' z = N z) ∧ M' 517 7 = 0 := fun M' q => by
  obtain ⟨⟨q1, q2⟩, q3, q4, q5⟩ := q
  obtain ⟨h1, h2, h3, h4, h5, h6, h7⟩ := h
  refine ⟨⟨h1.of q2, q5, ?_, ma_H w h4 h7.2.2 q4 (fun j _ _ => by rw [h2]), ?_, ?_, ?_⟩, fun z hz => q1 z (by omega) (by omega) (by omega) (by omega) (by omega) (by omega) (by omega), q3⟩
  · rw [q2 4 (by decide) (by decide) (by decide) (by decide) (by decide), q1 520 (by decide) (by decide) (by decide) (by decide) (by decide) (by decide) (by decide)]; exact h3
  · unfold zTy
    rw [q2 13 (by decide) (by decide) (by decide) (by decide) (by decide), q1 523 (by decide) (by decide) (by decide) (by decide) (by decide) (by decide) (by decide)]; exact h5
  · unfold zTi9
    rw [q2 9 (by decide) (by decide) (by decide) (by decide) (by decide), q1 522 (by decide) (by decide) (by decide) (by decide) (by decide) (by decide) (by decide)]; exact h6
  · rw [q2 10 (by decide) (by decide) (by decide) (by decide) (by decide), q2 11 (by decide) (by decide) (by decide) (by decide) (by decide), q2 6 (by decide) (by decide) (by decide) (by decide) (by decide)]; exact h7
/-! wrappers -/
theorem wo_1 {x y : Int} (hy : 529 ≤ y ∧ y ≤ 530) (w : zWS G s V n F L B e f) {P : zV → zS → zM → Prop} (h : z_CallH Y zF as M P) (hP : ∀ r S' M', P r S' M' → S' = zF ∧ ((∃ M1, zCP M1 G s V n F L B e f ∧ (∀ z, 517 ≤ z → M1 z = M z) ∧ r = (0, 0) ∧ M' = z_up M1 y 0 x))) : z_CallH Y zF as M (zWo M 0 y x G s V n F L B e f) := z_callH_mono h (fun r S' M' q => by
  obtain ⟨q1, M1, q2, q3, q4, q5⟩ := hP _ _ _ q
  refine ⟨q4, q1, ?_, ?_, ?_⟩
  · rw [q5]
    exact q2.of w (fun z a b _ => z_up_ne (by omega))
  · intro z a b
    rw [q5, z_up_ne (by omega)]
    exact q3 z a
  · intro _
    rw [q5]
    exact z_up_eq)
theorem wo_2 {k x y : Int} (hk : k ≠ 0) {P : zV → zS → zM → Prop} (h : z_CallH Y zF as M P) (hP : ∀ r S' M', P r S' M' → S' = zF ∧ zCP M' G s V n F L B e f ∧ (∀ z, 517 ≤ z → M' z = M z) ∧ r = (0, k)) : z_CallH Y zF as M (zWo M k y x G s V n F L B e f) := z_callH_mono h (fun r S' M' q => by
  obtain ⟨q1, q2, q3, q4⟩ := hP _ _ _ q
  exact ⟨q4, q1, q2, fun z a _ => q3 z a, fun c => absurd c hk⟩)
theorem cvo1 {c1 y x : Int} {r : zV} {S' : zS} (q : S' = zF ∧ ∃ r1 M1, yCo M (0, x) G s V n F L B e f r1 zF M1 ∧ ((∃ v, r1 = (0, v) ∧ r = (0, 0) ∧ M' = z_up M1 y 0 v) ∨ (r1 = (8, c1) ∧ r = (0, 1) ∧ M' = M1))) : S' = zF ∧ ∃ M1, zCP M1 G s V n F L B e f ∧ (∀ z, 517 ≤ z → M1 z = M z) ∧ r = (0, 0) ∧ M' = z_up M1 y 0 x := by
  obtain ⟨q1, r1, M1, ⟨a1, -, a3, a4⟩, q2⟩ := q
  subst a1
  rcases q2 with ⟨v, b1, b2, b3⟩ | ⟨b1, -, -⟩
  · have b4 : x = v := congrArg Prod.snd b1
    subst b4
    exact ⟨q1, M1, a3, a4, b2, b3⟩
  · exact absurd (congrArg Prod.fst b1) (show ¬ ((0 : Nat) = 8) by decide)
theorem cvt11 {c1 y : Int} {r : zV} {S' : zS}  (q : S' = zF ∧ ∃ r1 M1, yCo M (8, c1) G s V n F L B e f r1 zF M1 ∧ ((∃ v, r1 = (0, v) ∧ r = (0, 0) ∧ M' = z_up M1 y 0 v) ∨ (r1 = (8, c1) ∧ r = (0, 1) ∧ M' = M1))) : S' = zF ∧ zCP M' G s V n F L B e f ∧ (∀ z, 517 ≤ z → M' z = M z) ∧ r = (0, 1) := by
  obtain ⟨q1, r1, M1, ⟨a1, -, a3, a4⟩, q2⟩ := q
  subst a1
  rcases q2 with ⟨v, b1, b2, b3⟩ | ⟨b1, b2, b3⟩
  · exact absurd (congrArg Prod.fst b1) (show ¬ ((8 : Nat) = 0) by decide)
  · subst b3; exact ⟨q1, a3, a4, b2⟩
theorem cvo1d {c1 y x : Int} {r : zV} {S' : zS} (q : S' = zF ∧ ∃ r1 M1, yCo M (4, x) G s V n F L B e f r1 zF M1 ∧ ((∃ v, r1 = (4, v) ∧ r = (0, 0) ∧ M' = z_up M1 y 0 v) ∨ (r1 = (8, c1) ∧ r = (0, 1) ∧ M' = M1))) : S' = zF ∧ ∃ M1, zCP M1 G s V n F L B e f ∧ (∀ z, 517 ≤ z → M1 z = M z) ∧ r = (0, 0) ∧ M' = z_up M1 y 0 x := by
  obtain ⟨q1, r1, M1, ⟨a1, -, a3, a4⟩, q2⟩ := q
  subst a1
  rcases q2 with ⟨v, b1, b2, b3⟩ | ⟨b1, -, -⟩
  · have b4 : x = v := congrArg Prod.snd b1
    subst b4
    exact ⟨q1, M1, a3, a4, b2, b3⟩
  · exact absurd (congrArg Prod.fst b1) (show ¬ ((4 : Nat) = 8) by decide)
theorem cvt11d {c1 y : Int} {r : zV} {S' : zS}  (q : S' = zF ∧ ∃ r1 M1, yCo M (8, c1) G s V n F L B e f r1 zF M1 ∧ ((∃ v, r1 = (4, v) ∧ r = (0, 0) ∧ M' = z_up M1 y 0 v) ∨ (r1 = (8, c1) ∧ r = (0, 1) ∧ M' = M1))) : S' = zF ∧ zCP M' G s V n F L B e f ∧ (∀ z, 517 ≤ z → M' z = M z) ∧ r = (0, 1) := by
  obtain ⟨q1, r1, M1, ⟨a1, -, a3, a4⟩, q2⟩ := q
  subst a1
  rcases q2 with ⟨v, b1, b2, b3⟩ | ⟨b1, b2, b3⟩
  · exact absurd (congrArg Prod.fst b1) (show ¬ ((8 : Nat) = 4) by decide)
  · subst b3; exact ⟨q1, a3, a4, b2⟩
theorem cvo2 {c1 c2 y x : Int} {r : zV} {S' : zS} (q : S' = zF ∧ ∃ r1 M1, yCo M (0, x) G s V n F L B e f r1 zF M1 ∧ ((∃ v, r1 = (0, v) ∧ r = (0, 0) ∧ M' = z_up M1 y 0 v) ∨ (r1 = (8, c1) ∧ r = (0, 1) ∧ M' = M1) ∨ (r1 = (8, c2) ∧ r = (0, 2) ∧ M' = M1))) : S' = zF ∧ ∃ M1, zCP M1 G s V n F L B e f ∧ (∀ z, 517 ≤ z → M1 z = M z) ∧ r = (0, 0) ∧ M' = z_up M1 y 0 x := by
  obtain ⟨q1, r1, M1, ⟨a1, -, a3, a4⟩, q2⟩ := q
  subst a1
  rcases q2 with ⟨v, b1, b2, b3⟩ | ⟨b1, -, -⟩ | ⟨b1, -, -⟩
  · have b4 : x = v := congrArg Prod.snd b1
    subst b4
    exact ⟨q1, M1, a3, a4, b2, b3⟩
  · exact absurd (congrArg Prod.fst b1) (show ¬ ((0 : Nat) = 8) by decide)
  · exact absurd (congrArg Prod.fst b1) (show ¬ ((0 : Nat) = 8) by decide)
theorem cvt21 {c1 c2 y : Int} {r : zV} {S' : zS} (n2 : c1 ≠ c2) (q : S' = zF ∧ ∃ r1 M1, yCo M (8, c1) G s V n F L B e f r1 zF M1 ∧ ((∃ v, r1 = (0, v) ∧ r = (0, 0) ∧ M' = z_up M1 y 0 v) ∨ (r1 = (8, c1) ∧ r = (0, 1) ∧ M' = M1) ∨ (r1 = (8, c2) ∧ r = (0, 2) ∧ M' = M1))) : S' = zF ∧ zCP M' G s V n F L B e f ∧ (∀ z, 517 ≤ z → M' z = M z) ∧ r = (0, 1) := by
  obtain ⟨q1, r1, M1, ⟨a1, -, a3, a4⟩, q2⟩ := q
  subst a1
  rcases q2 with ⟨v, b1, b2, b3⟩ | ⟨b1, b2, b3⟩ | ⟨b1, b2, b3⟩
  · exact absurd (congrArg Prod.fst b1) (show ¬ ((8 : Nat) = 0) by decide)
  · subst b3; exact ⟨q1, a3, a4, b2⟩
  · exact absurd (congrArg Prod.snd b1) n2
theorem cvt22 {c1 c2 y : Int} {r : zV} {S' : zS} (n1 : c2 ≠ c1) (q : S' = zF ∧ ∃ r1 M1, yCo M (8, c2) G s V n F L B e f r1 zF M1 ∧ ((∃ v, r1 = (0, v) ∧ r = (0, 0) ∧ M' = z_up M1 y 0 v) ∨ (r1 = (8, c1) ∧ r = (0, 1) ∧ M' = M1) ∨ (r1 = (8, c2) ∧ r = (0, 2) ∧ M' = M1))) : S' = zF ∧ zCP M' G s V n F L B e f ∧ (∀ z, 517 ≤ z → M' z = M z) ∧ r = (0, 2) := by
  obtain ⟨q1, r1, M1, ⟨a1, -, a3, a4⟩, q2⟩ := q
  subst a1
  rcases q2 with ⟨v, b1, b2, b3⟩ | ⟨b1, b2, b3⟩ | ⟨b1, b2, b3⟩
  · exact absurd (congrArg Prod.fst b1) (show ¬ ((8 : Nat) = 0) by decide)
  · exact absurd (congrArg Prod.snd b1) n1
  · subst b3; exact ⟨q1, a3, a4, b2⟩
theorem cvo3 {c1 c2 c3 y x : Int} {r : zV} {S' : zS} (q : S' = zF ∧ ∃ r1 M1, yCo M (0, x) G s V n F L B e f r1 zF M1 ∧ ((∃ v, r1 = (0, v) ∧ r = (0, 0) ∧ M' = z_up M1 y 0 v) ∨ (r1 = (8, c1) ∧ r = (0, 1) ∧ M' = M1) ∨ (r1 = (8, c2) ∧ r = (0, 2) ∧ M' = M1) ∨ (r1 = (8, c3) ∧ r = (0, 3) ∧ M' = M1))) : S' = zF ∧ ∃ M1, zCP M1 G s V n F L B e f ∧ (∀ z, 517 ≤ z → M1 z = M z) ∧ r = (0, 0) ∧ M' = z_up M1 y 0 x := by
  obtain ⟨q1, r1, M1, ⟨a1, -, a3, a4⟩, q2⟩ := q
  subst a1
  rcases q2 with ⟨v, b1, b2, b3⟩ | ⟨b1, -, -⟩ | ⟨b1, -, -⟩ | ⟨b1, -, -⟩
  · have b4 : x = v := congrArg Prod.snd b1
    subst b4
    exact ⟨q1, M1, a3, a4, b2, b3⟩
  · exact absurd (congrArg Prod.fst b1) (show ¬ ((0 : Nat) = 8) by decide)
  · exact absurd (congrArg Prod.fst b1) (show ¬ ((0 : Nat) = 8) by decide)
  · exact absurd (congrArg Prod.fst b1) (show ¬ ((0 : Nat) = 8) by decide)
theorem cvt31 {c1 c2 c3 y : Int} {r : zV} {S' : zS} (n2 : c1 ≠ c2) (n3 : c1 ≠ c3) (q : S' = zF ∧ ∃ r1 M1, yCo M (8, c1) G s V n F L B e f r1 zF M1 ∧ ((∃ v, r1 = (0, v) ∧ r = (0, 0) ∧ M' = z_up M1 y 0 v) ∨ (r1 = (8, c1) ∧ r = (0, 1) ∧ M' = M1) ∨ (r1 = (8, c2) ∧ r = (0, 2) ∧ M' = M1) ∨ (r1 = (8, c3) ∧ r = (0, 3) ∧ M' = M1))) : S' = zF ∧ zCP M' G s V n F L B e f ∧ (∀ z, 517 ≤ z → M' z = M z) ∧ r = (0, 1) := by
  obtain ⟨q1, r1, M1, ⟨a1, -, a3, a4⟩, q2⟩ := q
  subst a1
  rcases q2 with ⟨v, b1, b2, b3⟩ | ⟨b1, b2, b3⟩ | ⟨b1, b2, b3⟩ | ⟨b1, b2, b3⟩
  · exact absurd (congrArg Prod.fst b1) (show ¬ ((8 : Nat) = 0) by decide)
  · subst b3; exact ⟨q1, a3, a4, b2⟩
  · exact absurd (congrArg Prod.snd b1) n2
  · exact absurd (congrArg Prod.snd b1) n3
theorem cvt32 {c1 c2 c3 y : Int} {r : zV} {S' : zS} (n1 : c2 ≠ c1) (n3 : c2 ≠ c3) (q : S' = zF ∧ ∃ r1 M1, yCo M (8, c2) G s V n F L B e f r1 zF M1 ∧ ((∃ v, r1 = (0, v) ∧ r = (0, 0) ∧ M' = z_up M1 y 0 v) ∨ (r1 = (8, c1) ∧ r = (0, 1) ∧ M' = M1) ∨ (r1 = (8, c2) ∧ r = (0, 2) ∧ M' = M1) ∨ (r1 = (8, c3) ∧ r = (0, 3) ∧ M' = M1))) : S' = zF ∧ zCP M' G s V n F L B e f ∧ (∀ z, 517 ≤ z → M' z = M z) ∧ r = (0, 2) := by
  obtain ⟨q1, r1, M1, ⟨a1, -, a3, a4⟩, q2⟩ := q
  subst a1
  rcases q2 with ⟨v, b1, b2, b3⟩ | ⟨b1, b2, b3⟩ | ⟨b1, b2, b3⟩ | ⟨b1, b2, b3⟩
  · exact absurd (congrArg Prod.fst b1) (show ¬ ((8 : Nat) = 0) by decide)
  · exact absurd (congrArg Prod.snd b1) n1
  · subst b3; exact ⟨q1, a3, a4, b2⟩
  · exact absurd (congrArg Prod.snd b1) n3
theorem cvt33 {c1 c2 c3 y : Int} {r : zV} {S' : zS} (n1 : c3 ≠ c1) (n2 : c3 ≠ c2) (q : S' = zF ∧ ∃ r1 M1, yCo M (8, c3) G s V n F L B e f r1 zF M1 ∧ ((∃ v, r1 = (0, v) ∧ r = (0, 0) ∧ M' = z_up M1 y 0 v) ∨ (r1 = (8, c1) ∧ r = (0, 1) ∧ M' = M1) ∨ (r1 = (8, c2) ∧ r = (0, 2) ∧ M' = M1) ∨ (r1 = (8, c3) ∧ r = (0, 3) ∧ M' = M1))) : S' = zF ∧ zCP M' G s V n F L B e f ∧ (∀ z, 517 ≤ z → M' z = M z) ∧ r = (0, 3) := by
  obtain ⟨q1, r1, M1, ⟨a1, -, a3, a4⟩, q2⟩ := q
  subst a1
  rcases q2 with ⟨v, b1, b2, b3⟩ | ⟨b1, b2, b3⟩ | ⟨b1, b2, b3⟩ | ⟨b1, b2, b3⟩
  · exact absurd (congrArg Prod.fst b1) (show ¬ ((8 : Nat) = 0) by decide)
  · exact absurd (congrArg Prod.snd b1) n1
  · exact absurd (congrArg Prod.snd b1) n2
  · subst b3; exact ⟨q1, a3, a4, b2⟩
theorem z_n8 {x c : Int} (h : ((0 : Nat), x) = (8, c)) : False := absurd (congrArg Prod.fst h) (show ¬ ((0 : Nat) = 8) by decide)
theorem z_n8' {x c : Int} (h : ((8 : Nat), c) = (0, x)) : False := absurd (congrArg Prod.fst h) (show ¬ ((8 : Nat) = 0) by decide)
end ZREL2
/-- a call through the law's wrapper, then the reference's: what they owe -/
def yJ (Yc : zY) (ac : List zV) (Ym : zY) (am : List zV) (M : zM) (T : Int → Prop) : Prop := ∃ P, z_CallH Yc zF ac M P ∧ ∀ r S1 M1, P r S1 M1 → S1 = zF ∧ ∃ k, r = (0, k) ∧ ∃ P2, z_Call Ym zF am M1 P2 ∧ ∀ r2 S2 M2, P2 r2 S2 M2 → S2 = zF ∧ ∃ b, r2 = (0, b) ∧ M2 517 7 = k ∧ (k = 0 → M2 529 0 = b ∧ T b) ∧ zRl M2
def yJd (Yc : zY) (ac : List zV) (Ym : zY) (am : List zV) (M : zM) : Prop := ∃ P, z_Call Yc zF ac M P ∧ ∀ r S1 M1, P r S1 M1 → S1 = zF ∧ ∃ v, r = (0, v) ∧ ∃ P2, z_Call Ym zF am M1 P2 ∧ ∀ r2 S2 M2, P2 r2 S2 M2 → S2 = zF ∧ r2 = (0, v) ∧ zRl M2
def yJf (Yc : zY) (ac : List zV) (Ym : zY) (am : List zV) (M : zM) (t : Nat) (T : Int → Int → Prop) : Prop := ∃ P, z_CallH Yc zF ac M P ∧ ∀ r S1 M1, P r S1 M1 → S1 = zF ∧ ∃ k, r = (0, k) ∧ ∃ P2, z_Call Ym zF am M1 P2 ∧ ∀ r2 S2 M2, P2 r2 S2 M2 → S2 = zF ∧ ∃ b, r2 = (t, b) ∧ M2 517 7 = k ∧ (k = 0 → T b (M2 530 0)) ∧ zRl M2
theorem zRl.mk (w : zWS G s V n F L B e f) (c : zCP N G s V n F L B e f) (h : ∃ G2, zE160 G G2 ∧ zMP M' G2 s V n F L B e f) (e9 : ∀ z, z < 517 ∨ 528 < z → M' z = N z) : zRl M' := by
  obtain ⟨G2, hE, hM⟩ := h
  exact ⟨G2, s, V, n, F, L, B, e, f, (c.cong w hE).of (w.cong hE) (fun z a b _ => e9 z (by omega)), hM, w.cong hE⟩
section ZREL3
variable {Yc Ym : zY} {ac am : List zV} {s2 n2 e2 f2 : Int} {V2 : Int → Int} {F2 : Int → Int → Int} {L2 B2 : List Int}
theorem yJ_w {k x : Int} {T : Int → Prop} (hM : zMP M G s V n F L B e f) (W : z_CallH Yc zF ac M (zWo M k 529 x G' s2 V2 n2 F2 L2 B2 e2 f2)) (w : zWS G' s2 V2 n2 F2 L2 B2 e2 f2) (mo : ∀ N, zMP N G s V n F L B e f → z_Call Ym zF am N (zMo N 0 k x G' s2 V2 n2 F2 L2 B2 e2 f2)) (hT : k = 0 → T x) : yJ Yc ac Ym am M T := by
  refine ⟨_, W, fun r S1 M1 h => ⟨h.2.1, k, h.1, _, mo M1 (hM.of (fun z a b => h.2.2.2.1 z a (by omega))), fun r2 S2 M2 g => ?_⟩⟩
  obtain ⟨g1, ⟨b, g2, g3⟩, g4, g5, g6⟩ := g
  refine ⟨g1, b, g2, g6, fun c => ?_, zRl.mk w h.2.2.1 g4 g5⟩
  rw [g5 529 (by omega), h.2.2.2.2 c, g3 c]
  exact ⟨rfl, hT c⟩
theorem yJd_w {x : Int} (hM : zMP M G s V n F L B e f) (W : z_Call Yc zF ac M (yCo M (0, x) G' s2 V2 n2 F2 L2 B2 e2 f2)) (w : zWS G' s2 V2 n2 F2 L2 B2 e2 f2) (mo : ∀ N, zMP N G s V n F L B e f → z_Call Ym zF am N (zMo N 0 0 x G' s2 V2 n2 F2 L2 B2 e2 f2)) : yJd Yc ac Ym am M := by
  refine ⟨_, W, fun r S1 M1 h => ⟨h.2.1, x, h.1, _, mo M1 (hM.of (fun z a b => h.2.2.2 z a)), fun r2 S2 M2 g => ?_⟩⟩
  obtain ⟨g1, ⟨b, g2, g3⟩, g4, g5, g6⟩ := g
  rw [g3 rfl] at g2
  exact ⟨g1, g2, zRl.mk w h.2.2.1 g4 g5⟩
theorem yJf_w {t : Nat} {k x y : Int} {T : Int → Int → Prop} (hM : zMP M G s V n F L B e f) (W : z_CallH Yc zF ac M (zWo M k 530 y G' s2 V2 n2 F2 L2 B2 e2 f2)) (w : zWS G' s2 V2 n2 F2 L2 B2 e2 f2) (mo : ∀ N, zMP N G s V n F L B e f → z_Call Ym zF am N (zMo N t k x G' s2 V2 n2 F2 L2 B2 e2 f2)) (hT : k = 0 → T x y) : yJf Yc ac Ym am M t T := by
  refine ⟨_, W, fun r S1 M1 h => ⟨h.2.1, k, h.1, _, mo M1 (hM.of (fun z a b => h.2.2.2.1 z a (by omega))), fun r2 S2 M2 g => ?_⟩⟩
  obtain ⟨g1, ⟨b, g2, g3⟩, g4, g5, g6⟩ := g
  refine ⟨g1, b, g2, g6, fun c => ?_, zRl.mk w h.2.2.1 g4 g5⟩
  rw [g5 530 (by omega), h.2.2.2.2 c, g3 c]
  exact hT c
end ZREL3
end ZREL
