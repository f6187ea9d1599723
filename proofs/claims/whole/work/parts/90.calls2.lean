/-! dep: 89 77 78 80 81 64 -/
/-! ===== the law's other calls, class and reference side by side ===== -/
section ZJK
variable {M N M' : zM} {G G' V : Int → Int} {s n e f : Int} {F : Int → Int → Int} {L B : List Int}
theorem zgetD_mem {L : List Int} {i : Nat} (h : i < L.length) : L.getD i 0 ∈ L := by
  rw [List.getD_eq_getElem?_getD, List.getElem?_eq_getElem h]
  exact List.getElem_mem h
/-! characters of the line -/
theorem zDg_rg {x : Int} (h0 : -1 ≤ x) (h1 : x ≤ 99) : ∀ y ∈ zDg x, (0 : Int) ≤ y ∧ y < 65536 := by
  intro y hy
  unfold zDg at hy
  by_cases c : 10 ≤ x
  · rw [if_pos c] at hy
    rcases List.mem_cons.mp hy with rfl | hy
    · omega
    · rcases List.mem_cons.mp hy with rfl | hy
      · omega
      · cases hy
  · rw [if_neg c] at hy
    rcases List.mem_cons.mp hy with rfl | hy
    · omega
    · cases hy
theorem zTb_rg (hG : zWF G) {b : Int} (hb : 0 ≤ b ∧ b < G 1) : ∀ k : Nat, (k : Int) ≤ G (20 + 7 * b + 1) → ∀ y ∈ zTb G b k, (0 : Int) ≤ y ∧ y < 65536 := by
  have hw := hG.w
  have hwt := hG.wt hb.1 hb.2
  intro k
  induction k with
  | zero =>
    intro _ y hy
    rcases List.mem_append.mp hy with hy | hy
    · rcases List.mem_append.mp hy with hy | hy
      · exact zDg_rg (by omega) (by omega) y hy
      · rcases List.mem_cons.mp hy with rfl | hy
        · decide
        · cases hy
    · rcases List.mem_cons.mp hy with rfl | hy
      · decide
      · cases hy
  | succ k ih =>
    intro hk y hy
    have hr := hG.rk hb.1 hb.2 (k : Int) (by omega) (by omega)
    rcases List.mem_append.mp hy with hy | hy
    · by_cases c : k = 0
      · rw [if_pos c] at hy
        exact ih (by omega) y hy
      · rw [if_neg c] at hy
        rcases List.mem_append.mp hy with hy | hy
        · exact ih (by omega) y hy
        · rcases List.mem_cons.mp hy with rfl | hy
          · decide
          · cases hy
    · exact zDg_rg (by omega) (by omega) y hy
theorem zTc_rg (hG : zWF G) : ∀ k : Nat, (k : Int) ≤ zRn G → ∀ y ∈ zTc G k, (0 : Int) ≤ y ∧ y < 65536 := by
  intro k
  induction k with
  | zero => intro _ y hy; cases hy
  | succ k ih =>
    intro hk y hy
    have hi : 0 ≤ (k : Int) ∧ (k : Int) < zRn G := ⟨by omega, by omega⟩
    have hs := zSt_of hG hi
    have hel := zEl_in hG hs hi.1 hi.2
    have hsp := zRn_spec hG hs
    rcases List.mem_append.mp hy with hy | hy
    · rcases List.mem_append.mp hy with hy | hy
      · exact ih (by omega) y hy
      · by_cases c1 : zEl (zVr G k) (zP G k) = -1
        · rw [if_pos c1] at hy
          have c2 : zWn (zVr G k) ≠ -1 := by rw [hel.mp c1]; exact hsp.2.2.2.2
          have c3 := zWn_range c2
          exact zDg_rg (by omega) (by omega) y hy
        · rw [if_neg c1] at hy
          have c4 : zWn (zVr G k) = -1 := hsp.2.2.2.1 k hi.1 (by have := fun c => c1 (hel.mpr c); omega)
          obtain ⟨w, w0, w1, w2⟩ := (zA_alive hG hs hi.1 (by omega) (fun j j0 j1 => hsp.2.2.2.1 j j0 (by have := fun c => c1 (hel.mpr c); omega))).2
          have c3 := zEl_ex (V := zVr G k) (s := zP G k) w0 w1 (fun e => by rw [(zVo_ne hG _ w).mp e] at w2; cases w2) c4 (zP_range hG hi.1).1
          exact zDg_rg (by omega) (by omega) y hy
    · rcases List.mem_cons.mp hy with rfl | hy
      · split
        · decide
        · split <;> decide
      · cases hy
theorem zWS.line {L' : List Int} (w : zWS G s V n F L B e f) (hl : L'.length ≤ 60) (hc : ∀ y ∈ L', (0 : Int) ≤ y ∧ y < 65536) : zWS G s V n F L' B e f := ⟨w.1, w.2.1, w.2.2.1, w.2.2.2.1, w.2.2.2.2.1, ⟨hl, hc⟩, w.2.2.2.2.2.2⟩
theorem zWS.buf {B' : List Int} (w : zWS G s V n F L B e f) (hl : B'.length ≤ 60) (hc : ∀ y ∈ B', (32 : Int) ≤ y ∧ y ≤ 126) : zWS G s V n F L B' e f := ⟨w.1, w.2.1, w.2.2.1, w.2.2.2.1, w.2.2.2.2.1, w.2.2.2.2.2.1, ⟨hl, hc⟩, w.2.2.2.2.2.2.2⟩
theorem zHm.g (H : zHm N) (e9 : ∀ j, j ≤ 3 ∨ j = 8 ∨ j = 12 ∨ (14 ≤ j ∧ j ≤ 17) ∨ j = 22 → M' 517 j = N 517 j) : zHm M' := by
  unfold zHm at H ⊢
  rw [e9 0 (by decide), e9 1 (by decide), e9 2 (by decide), e9 3 (by decide), e9 8 (by decide), e9 12 (by decide), e9 14 (by decide), e9 15 (by decide), e9 16 (by decide), e9 17 (by decide), e9 22 (by decide)]
  exact H
theorem zRow_n9 {z a : Int} {g : Int → Int} {k : Int} (h : a ≠ z) : zRow M z g k a = M a := by
  funext j
  unfold zRow
  rw [if_neg (by omega)]
/-- the line is new -/
theorem cc_line {L' : List Int} (h : zCP M G s V n F L B e f) (w : zWS G s V n F L B e f) (q1 : ∀ z, z < 488 ∨ 509 < z → z ≠ 511 → z ≠ 512 → M' z = M z) (q2 : zHc M') (q3 : zHp M') (q4 : zTx M' 511 L') : zCP M' G s V n F L' B e f := by
  obtain ⟨Hw, R, Hb, Hs, Hi, Hc, Hp, HL, HB, He, Hf⟩ := id h
  have e1 := q1 1 (by decide) (by decide) (by decide)
  exact ⟨Hw.of e1, R.of w.1 (fun z a b => q1 z (by omega) (by omega) (by omega)), Hb.of (fun z a b => q1 z (by omega) (by omega) (by omega)), ⟨Hs.1.of (fun z a b => q1 z (by omega) (by omega) (by omega)), by rw [e1]; exact Hs.2.1, fun c => (Hs.2.2 c).of (w.2.2.1 c) (fun z a b => q1 z (by omega) (by omega) (by omega))⟩, zHi.of w Hi (fun z a b => q1 z (by omega) (by omega) (by omega)), q2, q3, q4, ⟨HB.1.oz (fun z a b => q1 z (by omega) (by omega) (by omega)), by rw [q1 513 (by decide) (by decide) (by decide)]; exact HB.2.1, by rw [q1 513 (by decide) (by decide) (by decide)]; exact HB.2.2⟩, by rw [e1]; exact He, by rw [e1]; exact Hf⟩
theorem mm_line {L' : List Int} {k : Int} (h : zMP N G s V n F L B e f) (q1 : ∀ z, z ≠ 517 → z ≠ 523 → z ≠ 524 → z ≠ 525 → z ≠ 526 → z ≠ 527 → M' z = N z) (q2 : ∀ j, j ≠ 7 → j ≠ 13 → j ≠ 18 → j ≠ 19 → j ≠ 20 → M' 517 j = N 517 j) (q3 : M' 517 7 = k) (q4 : zTy M' L') : zMP M' G s V n F L' B e f ∧ (∀ z, z < 517 ∨ 528 < z → M' z = N z) ∧ M' 517 7 = k := by
  obtain ⟨H, hg, hs4, hn5, hr⟩ := id h
  refine ⟨⟨H.g (fun j hj => q2 j (by omega) (by omega) (by omega) (by omega) (by omega)), ?_, ?_, ?_, q4, ?_, ?_⟩, fun z hz => q1 z (by omega) (by omega) (by omega) (by omega) (by omega) (by omega), q3⟩
  · rw [q1 518 (by decide) (by decide) (by decide) (by decide) (by decide) (by decide)]; exact hg
  · rw [q2 4 (by decide) (by decide) (by decide) (by decide) (by decide), q1 520 (by decide) (by decide) (by decide) (by decide) (by decide) (by decide)]; exact hs4
  · rw [q2 5 (by decide) (by decide) (by decide) (by decide) (by decide), q1 519 (by decide) (by decide) (by decide) (by decide) (by decide) (by decide)]; exact hn5
  · unfold zTi9
    rw [q2 9 (by decide) (by decide) (by decide) (by decide) (by decide), q1 522 (by decide) (by decide) (by decide) (by decide) (by decide) (by decide)]; exact hr.2.1
  · rw [q2 10 (by decide) (by decide) (by decide) (by decide) (by decide), q2 11 (by decide) (by decide) (by decide) (by decide) (by decide), q2 6 (by decide) (by decide) (by decide) (by decide) (by decide)]; exact hr.2.2
theorem jj_writeBallot {p0 : Int} (R9 : zRl M) : yJ mL_writeBallot [(1, 1), (0, p0), (1, 529)] mX12_writeBallot [(1, 517), (0, p0)] M (fun _ => True) := by
  obtain ⟨G, s, V, n, F, L, B, e, f, h, m, w⟩ := R9
  obtain ⟨Hw, R, Hb, Hs, Hi, Hc, Hp, HL, HB, He, Hf⟩ := id h
  by_cases hb : 0 ≤ p0 ∧ p0 < G 1
  · have hz := w.1.sz hb.1 hb.2
    have hlen := zTbk_len (G := G) (b := p0) (k := G (20 + 7 * p0 + 1)) (by omega)
    have w' : zWS G s V n F (zTbk G p0 (G (20 + 7 * p0 + 1))) B e f := w.line (by omega) (zTb_rg w.1 hb _ (by omega))
    refine yJ_w m (wo_1 ⟨by decide, by decide⟩ w' (w_writeBallot (ca_g (A := fun M' => zLi M M' ∧ zTx M' 511 (zTbk G p0 (G (20 + 7 * p0 + 1)))) (s_X11_writeBallot Hw R w.1 HL.1 hb) (fun M' q => ⟨cc_line h w (fun z _ b c => q.1 z b c) (Hc.of (fun z a b => q.1 z (by omega) (by omega))) (Hp.of (fun z a b => q.1 z (by omega) (by omega))) q.2, fun z a => q.1 z (by omega) (by omega)⟩)) (fun r S' M' q => ⟨q.2.1, Or.inl ⟨_, q.1⟩⟩)) (fun r S' M' q => cvo1 q)) w' (fun N hN => ?_) (fun _ => trivial)
    obtain ⟨H, rfl, hs4, hn5, hr⟩ := id hN
    exact ma_g (A := fun M' => zSh N M' 0 ∧ zTy M' (zTbk (N 518) p0 (N 518 (20 + 7 * p0 + 1)))) (s_X12_writeBallot H w.1 hb) (fun M' q => mm_line hN (fun z a b _ _ _ _ => q.1.1 z a b) (fun j a b _ _ _ => q.1.2.1 j b a) q.1.2.2 q.2)
  · exact yJ_w (x := 0) m (wo_2 (by decide) (w_writeBallot (ca_r h (s_X11_writeBallot_x Hw R w.1 hb)) (fun r S' M' q => ⟨q.2.1, Or.inr q.1⟩)) (fun r S' M' q => cvt11 q)) w (fun N hN => by
      obtain ⟨H, rfl, hs4, hn5, hr⟩ := id hN
      exact ma_w (by decide) (A := fun M' => M' = z_up N 517 7 1) (s_X12_writeBallot_x H w.1 hb) (ma_A hN)) (fun c => absurd c (by decide))
theorem jj_writeCount (R9 : zRl M) : yJd mX11_writeCount [(1, 1)] mX12_writeCount [(1, 517)] M := by
  obtain ⟨G, s, V, n, F, L, B, e, f, h, m, w⟩ := R9
  obtain ⟨Hw, R, Hb, Hs, Hi, Hc, Hp, HL, HB, He, Hf⟩ := id h
  have h8 := zRn_le w.1
  have hlen := zTck_len (G := G) (k := zRn G) h8.1
  have w' : zWS G s V n F (zTck G (zRn G)) B e f := w.line (by omega) (zTc_rg w.1 _ (by omega))
  refine yJd_w m (ca_g (A := fun M' => (∀ z, z < 488 ∨ 509 < z → z ≠ 511 → z ≠ 512 → M' z = M z) ∧ zHc M' ∧ zHp M' ∧ zTx M' 511 (zTck G (zRn G))) (s_X11_writeCount Hw R w.1 Hc Hp HL.1) (fun M' q => ⟨cc_line h w q.1 q.2.1 q.2.2.1 q.2.2.2, fun z a => q.1 z (by omega) (by omega) (by omega)⟩)) w' (fun N hN => ?_)
  obtain ⟨H, rfl, hs4, hn5, hr⟩ := id hN
  exact ma_g (A := fun M' => zSc9 N M' ∧ zTy M' (zTck (N 518) (zRn (N 518)))) (s_X12_writeCount H w.1) (fun M' q => mm_line hN q.1.1 q.1.2.1 q.1.2.2 q.2)
theorem jj_lineAt {p0 : Int} (R9 : zRl M) : yJ mL_lineAt [(1, 1), (0, p0), (1, 529)] mX12_lineAt [(1, 517), (0, p0)] M (fun _ => True) := by
  obtain ⟨G, s, V, n, F, L, B, e, f, h, m, w⟩ := R9
  obtain ⟨Hw, R, Hb, Hs, Hi, Hc, Hp, HL, HB, He, Hf⟩ := id h
  have hlen := w.2.2.2.2.2.1.1
  by_cases hi : 0 ≤ p0 ∧ p0 < (L.length : Int)
  · have hv : M 512 p0 = L.getD p0.toNat 0 := by
      have t := HL.2.2 p0.toNat (by omega)
      rw [show ((p0.toNat : Nat) : Int) = p0 by omega] at t
      exact t
    have hr9 : 0 ≤ L.getD p0.toNat 0 ∧ L.getD p0.toNat 0 < 65536 := w.2.2.2.2.2.1.2 _ (zgetD_mem (by omega))
    refine yJ_w m (wo_1 ⟨by decide, by decide⟩ w (w_lineAt (ca_r h (x := L.getD p0.toNat 0) (t := 0) ?_) (fun r S' M' q => ⟨q.2.1, Or.inl ⟨_, q.1⟩⟩)) (fun r S' M' q => cvo1 q)) w (fun N hN => ?_) (fun _ => trivial)
    · have t := s_X11_lineAt (i := p0) Hw HL.1 (by rw [HL.2.1]; exact hi) (by rw [HL.2.1]; omega) (by rw [hv]; exact hr9)
      rw [hv] at t
      exact t
    · obtain ⟨H, rfl, hs4, hn5, hr⟩ := id hN
      have hv2 : N 523 p0 = L.getD p0.toNat 0 := by
        have t := hr.1.2 p0.toNat (by omega)
        rw [show ((p0.toNat : Nat) : Int) = p0 by omega] at t
        exact t
      refine ma_g (A := fun M' => M' = z_up N 517 7 0) ?_ (ma_A hN)
      have t := s_X12_lineAt (i := p0) H (by rw [hr.1.1]; exact hi) (by rw [hr.1.1]; omega) (by rw [hv2]; exact hr9)
      rw [hv2] at t
      exact t
  · exact yJ_w (x := 0) m (wo_2 (by decide) (w_lineAt (ca_r h (s_X11_lineAt_x (i := p0) Hw (by rw [HL.2.1]; exact hi))) (fun r S' M' q => ⟨q.2.1, Or.inr q.1⟩)) (fun r S' M' q => cvt11 q)) w (fun N hN => by
      obtain ⟨H, rfl, hs4, hn5, hr⟩ := id hN
      exact ma_w (by decide) (A := fun M' => M' = z_up N 517 7 1) (s_X12_lineAt_x (i := p0) (by rw [hr.1.1]; exact hi) (by rw [hr.1.1]; omega)) (ma_A hN)) (fun c => absurd c (by decide))
theorem jj_windByScore {p0 : Int} (R9 : zRl M) : yJ mL_windByScore [(1, 1), (0, p0), (1, 529)] mX12_windByScore [(1, 517), (0, p0)] M (fun _ => True) := by
  obtain ⟨G, s, V, n, F, L, B, e, f, h, m, w⟩ := R9
  obtain ⟨Hw, R, Hb, Hs, Hi, Hc, Hp, HL, HB, He, Hf⟩ := id h
  have hA : ∀ M', M' = zRow M 510 (zSc G) (G 0) → zCP M' G s V n F L B e f ∧ ∀ z, 517 ≤ z → M' z = M z := fun M' q => by
    rw [q]
    exact ⟨h.of w (fun z _ _ c => zRow_n9 c), fun z a => zRow_n9 (by omega)⟩
  by_cases hp : zBy G p0 = -1
  · exact yJ_w (x := 0) m (wo_2 (by decide) (w_windByScore (ca_g (A := fun M' => M' = zRow M 510 (zSc G) (G 0)) (s_X11_windByScore_x Hw R w.1 hp) hA) (fun r S' M' q => ⟨q.2.1, Or.inr q.1⟩)) (fun r S' M' q => cvt11 q)) w (fun N hN => by
      obtain ⟨H, rfl, hs4, hn5, hr⟩ := id hN
      have t := s_X12_windByScore (p := p0) H w.1
      rw [if_pos hp, if_pos hp] at t
      exact ma_w (by decide) (A := fun M' => M' = z_up N 517 7 1) t (ma_A hN)) (fun c => absurd c (by decide))
  · exact yJ_w m (wo_1 ⟨by decide, by decide⟩ w (w_windByScore (ca_g (A := fun M' => M' = zRow M 510 (zSc G) (G 0)) (s_X11_windByScore Hw R w.1 hp) hA) (fun r S' M' q => ⟨q.2.1, Or.inl ⟨_, q.1⟩⟩)) (fun r S' M' q => cvo1 q)) w (fun N hN => by
      obtain ⟨H, rfl, hs4, hn5, hr⟩ := id hN
      have t := s_X12_windByScore (p := p0) H w.1
      rw [if_neg hp, if_neg hp] at t
      exact ma_g (A := fun M' => M' = z_up N 517 7 0) t (ma_A hN)) (fun _ => trivial)
theorem jj_certify (R9 : zRl M) : yJ mL_certify [(1, 1), (1, 529)] mX12_certify [(1, 517)] M (fun _ => True) := by
  obtain ⟨G, s, V, n, F, L, B, e, f, h, m, w⟩ := R9
  obtain ⟨Hw, R, Hb, Hs, Hi, Hc, Hp, HL, HB, He, Hf⟩ := id h
  by_cases hs : zSt G = 0
  · exact yJ_w (x := 0) m (wo_2 (by decide) (w_certify (ca_g (A := fun M' => zAR M' 2 G ∧ zHa M' 46 ∧ zHc M' ∧ zHp M' ∧ ∀ z, z < 2 ∨ 90 ≤ z → z < 488 ∨ 509 < z → M' z = M z) (s_X11_certify_x Hw Hb R w.1 Hc Hp hs) (fun M' q => by
        obtain ⟨q2, q3, q4, q5, q1⟩ := q
        have e1 := q1 1 (by decide) (by decide)
        exact ⟨⟨Hw.of e1, q2, q3, ⟨Hs.1.of (fun z a b => q1 z (by omega) (by omega)), by rw [e1]; exact Hs.2.1, fun c => (Hs.2.2 c).of (w.2.2.1 c) (fun z a b => q1 z (by omega) (by omega))⟩, zHi.of w Hi (fun z a b => q1 z (by omega) (by omega)), q4, q5, HL.oz (fun z a b => q1 z (by omega) (by omega)), ⟨HB.1.oz (fun z a b => q1 z (by omega) (by omega)), by rw [q1 513 (by decide) (by decide)]; exact HB.2.1, by rw [q1 513 (by decide) (by decide)]; exact HB.2.2⟩, by rw [e1]; exact He, by rw [e1]; exact Hf⟩, fun z a => q1 z (by omega) (by omega)⟩)) (fun r S' M' q => ⟨q.2.1, Or.inr q.1⟩)) (fun r S' M' q => cvt11 q)) w (fun N hN => by
      obtain ⟨H, rfl, hs4, hn5, hr⟩ := id hN
      exact ma_w (by decide) (A := fun M' => zcF N M' 1) (s_X12_certify_x H w.1 hs) (ma_C hN)) (fun c => absurd c (by decide))
  · exact yJ_w m (wo_1 ⟨by decide, by decide⟩ (w.push (w.1.cert hs)) (w_certify (ca_c h w (s_X11_certify Hw Hb Hi.1 R w.1 Hc Hp hs)) (fun r S' M' q => ⟨q.2.1, Or.inl ⟨_, q.1⟩⟩)) (fun r S' M' q => cvo1 q)) (w.push (w.1.cert hs)) (fun N hN => by
      obtain ⟨H, rfl, hs4, hn5, hr⟩ := id hN
      have h5 : 0 ≤ N 517 5 ∧ N 517 5 ≤ 8 := by rw [hn5.1]; exact w.2.2.2.1
      exact ma_g (A := fun M' => zMF N M' ∧ M' 517 7 = 0 ∧ zKp N M' (N 518) ∧ M' 518 = gCert (N 518)) (s_X12_certify H w.1 h5 hs) (ma_M w hN)) (fun _ => trivial)
theorem jj_type {x : Int} (R9 : zRl M) : yJ mL_type [(1, 1), (0, x), (1, 529)] mX12_type [(1, 517), (0, x)] M (fun _ => True) := by
  obtain ⟨G, s, V, n, F, L, B, e, f, h, m, w⟩ := R9
  obtain ⟨Hw, R, Hb, Hs, Hi, Hc, Hp, HL, HB, He, Hf⟩ := id h
  have hlen := w.2.2.2.2.2.2.1.1
  by_cases hx : 32 ≤ x ∧ x ≤ 126
  · by_cases hl : B.length < 60
    · have w' : zWS G s V n F L (B ++ [x]) e f := w.buf (by rw [List.length_append]; show B.length + 1 ≤ 60; omega) (fun y hy => by
        rcases List.mem_append.mp hy with hy | hy
        · exact w.2.2.2.2.2.2.1.2 y hy
        · rcases List.mem_cons.mp hy with rfl | hy
          · exact hx
          · cases hy)
      refine yJ_w m (wo_1 ⟨by decide, by decide⟩ w' (w_type (ca_g (A := fun M' => zTx M' 514 (B ++ [x]) ∧ ∀ z, z ≠ 514 → z ≠ 515 → M' z = M z) (s_X11_type Hw HB.2.1 HB.1 hx hl) (fun M' q => ?_)) (fun r S' M' q => ⟨q.2.1, Or.inl ⟨_, q.1⟩⟩)) (fun r S' M' q => cvo2 q)) w' (fun N hN => ?_) (fun _ => trivial)
      · obtain ⟨q2, q1⟩ := q
        have e1 := q1 1 (by decide) (by decide)
        exact ⟨⟨Hw.of e1, R.of w.1 (fun z a b => q1 z (by omega) (by omega)), Hb.of (fun z a b => q1 z (by omega) (by omega)), ⟨Hs.1.of (fun z a b => q1 z (by omega) (by omega)), by rw [e1]; exact Hs.2.1, fun c => (Hs.2.2 c).of (w.2.2.1 c) (fun z a b => q1 z (by omega) (by omega))⟩, zHi.of w Hi (fun z a b => q1 z (by omega) (by omega)), Hc.of (fun z a b => q1 z (by omega) (by omega)), Hp.of (fun z a b => q1 z (by omega) (by omega)), HL.oz (fun z a b => q1 z (by omega) (by omega)), ⟨q2, by rw [q1 513 (by decide) (by decide)]; exact HB.2.1, by rw [q1 513 (by decide) (by decide)]; exact HB.2.2⟩, by rw [e1]; exact He, by rw [e1]; exact Hf⟩, fun z a => q1 z (by omega) (by omega)⟩
      · obtain ⟨H, rfl, hs4, hn5, hr⟩ := id hN
        refine ma_g (A := fun M' => zTi9 M' (B ++ [x]) ∧ (∀ z, z ≠ 517 → z ≠ 522 → M' z = N z) ∧ (∀ j, j ≠ 7 → j ≠ 9 → M' 517 j = N 517 j) ∧ M' 517 7 = 0) (s_X12_type H hr.2.1 hx hl) (fun M' q => ?_)
        obtain ⟨q4, q1, q2, q3⟩ := q
        refine ⟨⟨H.g (fun j hj => q2 j (by omega) (by omega)), q1 518 (by decide) (by decide), ?_, ?_, ?_, q4, ?_⟩, fun z hz => q1 z (by omega) (by omega), q3⟩
        · rw [q2 4 (by decide) (by decide), q1 520 (by decide) (by decide)]; exact hs4
        · rw [q2 5 (by decide) (by decide), q1 519 (by decide) (by decide)]; exact hn5
        · unfold zTy
          rw [q2 13 (by decide) (by decide), q1 523 (by decide) (by decide)]; exact hr.1
        · rw [q2 10 (by decide) (by decide), q2 11 (by decide) (by decide), q2 6 (by decide) (by decide)]; exact hr.2.2
    · exact yJ_w (x := 0) m (wo_2 (by decide) (w_type (ca_r h (s_X11_type_y Hw HB.2.1 HB.1 hx hl)) (fun r S' M' q => ⟨q.2.1, Or.inr (Or.inr q.1)⟩)) (fun r S' M' q => cvt22 (by decide) q)) w (fun N hN => by
        obtain ⟨H, rfl, hs4, hn5, hr⟩ := id hN
        exact ma_w (by decide) (A := fun M' => M' = z_up N 517 7 2) (s_X12_type_y hr.2.1 hx (by omega)) (ma_A hN)) (fun c => absurd c (by decide))
  · exact yJ_w (x := 0) m (wo_2 (by decide) (w_type (ca_r h (s_X11_type_x hx)) (fun r S' M' q => ⟨q.2.1, Or.inr (Or.inl q.1)⟩)) (fun r S' M' q => cvt21 (by decide) q)) w (fun N hN => by
      obtain ⟨H, rfl, hs4, hn5, hr⟩ := id hN
      exact ma_w (by decide) (A := fun M' => M' = z_up N 517 7 1) (s_X12_type_x hx) (ma_A hN)) (fun c => absurd c (by decide))
end ZJK
