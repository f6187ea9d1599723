/-! dep: 87 88 46 61 62 33 34 -/
/-! ===== printed by gen/specs/gen89.py: the law's calls, class and reference side by side ===== -/
section ZJJ
variable {M : zM}
theorem zite01 {c : Prop} [Decidable c] : (if c then (1 : Int) else 0) = 0 ∨ (if c then (1 : Int) else 0) = 1 := by
  by_cases h : c
  · rw [if_pos h]; exact Or.inr rfl
  · rw [if_neg h]; exact Or.inl rfl
theorem zTi_01b (V : Int → Int) : zTi V = 0 ∨ zTi V = 1 := by
  have := zTi_01 V
  omega
theorem zSt_of {G : Int → Int} (hG : zWF G) {i : Int} (hi : 0 ≤ i ∧ i < zRn G) : 1 ≤ zSt G := by
  apply Classical.byContradiction
  intro c
  have h0 := zSt_range hG
  have := zRn_0 (show zSt G = 0 by omega)
  omega
theorem jj_addWind (R9 : zRl M) : yJ mL_addWind [(1, 1), (1, 529)] mX12_addWind [(1, 517)] M (fun _ => True) := by
  obtain ⟨G, s, V, n, F, L, B, e, f, h, m, w⟩ := R9
  obtain ⟨Hw, R, Hb, Hs, Hi, Hc, Hp, HL, HB, He, Hf⟩ := id h
  by_cases hc : G 0 < 8
  · exact yJ_w m (wo_1 ⟨by decide, by decide⟩ (w.push (w.1.add hc)) (w_addWind (ca_m h w (s_X11_addWind Hw Hb Hi.1 R w.1 hc)) (fun r S' M' q => ⟨q.2.1, Or.inl ⟨_, q.1⟩⟩)) (fun r S' M' q => cvo1 q)) (w.push (w.1.add hc)) (fun N hN => by
      obtain ⟨H, rfl, hs4, hn5, hr⟩ := id hN
      have h5 : 0 ≤ N 517 5 ∧ N 517 5 ≤ 8 := by rw [hn5.1]; exact w.2.2.2.1
      exact ma_g (A := fun M' => zMF N M' ∧ M' 517 7 = 0 ∧ zKp N M' (N 518) ∧ M' 518 = gAdd (N 518)) (s_X12_addWind H w.1 h5 hc) (ma_M w hN)) (fun _ => trivial)
  · exact yJ_w (x := 0) m (wo_2 (by decide) (w_addWind (ca_x h w (s_X11_addWind_x Hw Hb Hi.1 R w.1 hc)) (fun r S' M' q => ⟨q.2.1, Or.inr q.1⟩)) (fun r S' M' q => cvt11 q)) w (fun N hN => by
      obtain ⟨H, rfl, hs4, hn5, hr⟩ := id hN
      have h5 : 0 ≤ N 517 5 ∧ N 517 5 ≤ 8 := by rw [hn5.1]; exact w.2.2.2.1
      exact ma_w (by decide) (A := fun M' => M' = z_up N 517 7 1) (s_X12_addWind_x H (by have := w.1.w; omega)) (ma_A hN)) (fun c => absurd c (by decide))
theorem jj_withdraw {p0 : Int} (R9 : zRl M) : yJ mL_withdraw [(1, 1), (0, p0), (1, 529)] mX12_withdraw [(1, 517), (0, p0)] M (fun _ => True) := by
  obtain ⟨G, s, V, n, F, L, B, e, f, h, m, w⟩ := R9
  obtain ⟨Hw, R, Hb, Hs, Hi, Hc, Hp, HL, HB, He, Hf⟩ := id h
  by_cases h1 : 0 ≤ p0 ∧ p0 < G 0
  · by_cases h2 : G (4 + p0) = 0
    · exact yJ_w m (wo_1 ⟨by decide, by decide⟩ (w.push (w.1.go h1.1 h1.2 h2)) (w_withdraw (ca_m h w (s_X11_withdraw Hw Hb Hi.1 R w.1 h1.1 h1.2 h2)) (fun r S' M' q => ⟨q.2.1, Or.inl ⟨_, q.1⟩⟩)) (fun r S' M' q => cvo2 q)) (w.push (w.1.go h1.1 h1.2 h2)) (fun N hN => by
        obtain ⟨H, rfl, hs4, hn5, hr⟩ := id hN
        have h5 : 0 ≤ N 517 5 ∧ N 517 5 ≤ 8 := by rw [hn5.1]; exact w.2.2.2.1
        exact ma_g (A := fun M' => zMF N M' ∧ M' 517 7 = 0 ∧ zKp N M' (N 518) ∧ M' 518 = gGo (N 518) p0) (s_X12_withdraw H w.1 h5 h1.1 h1.2 h2) (ma_M w hN)) (fun _ => trivial)
    · exact yJ_w (x := 0) m (wo_2 (by decide) (w_withdraw (ca_x h w (s_X11_withdraw_y Hw Hb Hi.1 R w.1 h1.1 h1.2 h2)) (fun r S' M' q => ⟨q.2.1, Or.inr (Or.inr q.1)⟩)) (fun r S' M' q => cvt22 (by decide) q)) w (fun N hN => by
        obtain ⟨H, rfl, hs4, hn5, hr⟩ := id hN
        have h5 : 0 ≤ N 517 5 ∧ N 517 5 ≤ 8 := by rw [hn5.1]; exact w.2.2.2.1
        exact ma_w (by decide) (A := fun M' => M' = z_up N 517 7 2) (s_X12_withdraw_y H w.1 h1.1 h1.2 h2) (ma_A hN)) (fun c => absurd c (by decide))
  · exact yJ_w (x := 0) m (wo_2 (by decide) (w_withdraw (ca_x h w (s_X11_withdraw_x Hw Hb Hi.1 R w.1 h1)) (fun r S' M' q => ⟨q.2.1, Or.inr (Or.inl q.1)⟩)) (fun r S' M' q => cvt21 (by decide) q)) w (fun N hN => by
      obtain ⟨H, rfl, hs4, hn5, hr⟩ := id hN
      have h5 : 0 ≤ N 517 5 ∧ N 517 5 ≤ 8 := by rw [hn5.1]; exact w.2.2.2.1
      exact ma_w (by decide) (A := fun M' => M' = z_up N 517 7 1) (s_X12_withdraw_x H w.1 h1) (ma_A hN)) (fun c => absurd c (by decide))
theorem jj_isStanding {p0 : Int} (R9 : zRl M) : yJ mL_isStanding [(1, 1), (0, p0), (1, 529)] mX12_isStanding [(1, 517), (0, p0)] M (fun b => b = 0 ∨ b = 1) := by
  obtain ⟨G, s, V, n, F, L, B, e, f, h, m, w⟩ := R9
  obtain ⟨Hw, R, Hb, Hs, Hi, Hc, Hp, HL, HB, He, Hf⟩ := id h
  by_cases h1 : 0 ≤ p0 ∧ p0 < G 0
  · exact yJ_w m (wo_1 ⟨by decide, by decide⟩ w (w_isStanding (ca_r h (s_X11_isStanding Hw R w.1 h1)) (fun r S' M' q => ⟨q.2.1, Or.inl ⟨_, q.1, zite01⟩⟩)) (fun r S' M' q => cvo1 q)) w (fun N hN => by
      obtain ⟨H, rfl, hs4, hn5, hr⟩ := id hN
      have h5 : 0 ≤ N 517 5 ∧ N 517 5 ≤ 8 := by rw [hn5.1]; exact w.2.2.2.1
      exact ma_g (A := fun M' => M' = z_up N 517 7 0) (s_X12_isStanding H w.1 h1) (ma_A hN)) (fun _ => zite01)
  · exact yJ_w (x := 0) m (wo_2 (by decide) (w_isStanding (ca_r h (s_X11_isStanding_x Hw R w.1 h1)) (fun r S' M' q => ⟨q.2.1, Or.inr q.1⟩)) (fun r S' M' q => cvt11 q)) w (fun N hN => by
      obtain ⟨H, rfl, hs4, hn5, hr⟩ := id hN
      have h5 : 0 ≤ N 517 5 ∧ N 517 5 ≤ 8 := by rw [hn5.1]; exact w.2.2.2.1
      exact ma_w (by decide) (A := fun M' => M' = z_up N 517 7 1) (s_X12_isStanding_x H w.1 h1) (ma_A hN)) (fun c => absurd c (by decide))
theorem jj_hasSeat {p0 : Int} (R9 : zRl M) : yJ mL_hasSeat [(1, 1), (0, p0), (1, 529)] mX12_hasSeat [(1, 517), (0, p0)] M (fun b => b = 0 ∨ b = 1) := by
  obtain ⟨G, s, V, n, F, L, B, e, f, h, m, w⟩ := R9
  obtain ⟨Hw, R, Hb, Hs, Hi, Hc, Hp, HL, HB, He, Hf⟩ := id h
  by_cases h1 : 0 ≤ p0 ∧ p0 < G 0
  · exact yJ_w m (wo_1 ⟨by decide, by decide⟩ w (w_hasSeat (ca_r h (s_X11_hasSeat Hw R w.1 h1)) (fun r S' M' q => ⟨q.2.1, Or.inl ⟨_, q.1, zite01⟩⟩)) (fun r S' M' q => cvo1 q)) w (fun N hN => by
      obtain ⟨H, rfl, hs4, hn5, hr⟩ := id hN
      have h5 : 0 ≤ N 517 5 ∧ N 517 5 ≤ 8 := by rw [hn5.1]; exact w.2.2.2.1
      exact ma_g (A := fun M' => M' = z_up N 517 7 0) (s_X12_hasSeat H w.1 h1) (ma_A hN)) (fun _ => zite01)
  · exact yJ_w (x := 0) m (wo_2 (by decide) (w_hasSeat (ca_r h (s_X11_hasSeat_x Hw R w.1 h1)) (fun r S' M' q => ⟨q.2.1, Or.inr q.1⟩)) (fun r S' M' q => cvt11 q)) w (fun N hN => by
      obtain ⟨H, rfl, hs4, hn5, hr⟩ := id hN
      have h5 : 0 ≤ N 517 5 ∧ N 517 5 ≤ 8 := by rw [hn5.1]; exact w.2.2.2.1
      exact ma_w (by decide) (A := fun M' => M' = z_up N 517 7 1) (s_X12_hasSeat_x H w.1 h1) (ma_A hN)) (fun c => absurd c (by decide))
theorem jj_addBallot {p0 p1 : Int} (R9 : zRl M) : yJ mL_addBallot [(1, 1), (0, p0), (0, p1), (1, 529)] mX12_addBallot [(1, 517), (0, p0), (0, p1)] M (fun _ => True) := by
  obtain ⟨G, s, V, n, F, L, B, e, f, h, m, w⟩ := R9
  obtain ⟨Hw, R, Hb, Hs, Hi, Hc, Hp, HL, HB, He, Hf⟩ := id h
  by_cases hf : 0 ≤ p1 ∧ p1 < G 0
  · by_cases hx : 1 ≤ p0 ∧ p0 ≤ 99
    · by_cases hn : G 1 < 20
      · exact yJ_w m (wo_1 ⟨by decide, by decide⟩ (w.push (w.1.ball hn hx hf)) (w_addBallot (ca_m h w (s_X11_addBallot Hw Hb Hi.1 R w.1 hn hx hf)) (fun r S' M' q => ⟨q.2.1, Or.inl ⟨_, q.1⟩⟩)) (fun r S' M' q => cvo3 q)) (w.push (w.1.ball hn hx hf)) (fun N hN => by
          obtain ⟨H, rfl, hs4, hn5, hr⟩ := id hN
          have h5 : 0 ≤ N 517 5 ∧ N 517 5 ≤ 8 := by rw [hn5.1]; exact w.2.2.2.1
          exact ma_g (A := fun M' => zMF N M' ∧ M' 517 7 = 0 ∧ zKp N M' (N 518) ∧ M' 518 = gBal (N 518) p0 p1) (s_X12_addBallot H w.1 h5 hx hf hn) (ma_M w hN)) (fun _ => trivial)
      · exact yJ_w (x := 0) m (wo_2 (by decide) (w_addBallot (ca_x h w (s_X11_addBallot_z Hw Hb Hi.1 R w.1 hf hx hn)) (fun r S' M' q => ⟨q.2.1, Or.inr (Or.inr (Or.inr q.1))⟩)) (fun r S' M' q => cvt33 (by decide) (by decide) q)) w (fun N hN => by
          obtain ⟨H, rfl, hs4, hn5, hr⟩ := id hN
          have h5 : 0 ≤ N 517 5 ∧ N 517 5 ≤ 8 := by rw [hn5.1]; exact w.2.2.2.1
          exact ma_w (by decide) (A := fun M' => M' = z_up N 517 7 3) (s_X12_addBallot_z H w.1 hf hx hn) (ma_A hN)) (fun c => absurd c (by decide))
    · exact yJ_w (x := 0) m (wo_2 (by decide) (w_addBallot (ca_x h w (s_X11_addBallot_y Hw Hb Hi.1 R w.1 hf hx)) (fun r S' M' q => ⟨q.2.1, Or.inr (Or.inr (Or.inl q.1))⟩)) (fun r S' M' q => cvt32 (by decide) (by decide) q)) w (fun N hN => by
        obtain ⟨H, rfl, hs4, hn5, hr⟩ := id hN
        have h5 : 0 ≤ N 517 5 ∧ N 517 5 ≤ 8 := by rw [hn5.1]; exact w.2.2.2.1
        exact ma_w (by decide) (A := fun M' => M' = z_up N 517 7 2) (s_X12_addBallot_y H w.1 hf hx) (ma_A hN)) (fun c => absurd c (by decide))
  · exact yJ_w (x := 0) m (wo_2 (by decide) (w_addBallot (ca_x h w (s_X11_addBallot_x Hw Hb Hi.1 R w.1 hf)) (fun r S' M' q => ⟨q.2.1, Or.inr (Or.inl q.1)⟩)) (fun r S' M' q => cvt31 (by decide) (by decide) q)) w (fun N hN => by
      obtain ⟨H, rfl, hs4, hn5, hr⟩ := id hN
      have h5 : 0 ≤ N 517 5 ∧ N 517 5 ≤ 8 := by rw [hn5.1]; exact w.2.2.2.1
      exact ma_w (by decide) (A := fun M' => M' = z_up N 517 7 1) (s_X12_addBallot_x H w.1 hf) (ma_A hN)) (fun c => absurd c (by decide))
theorem jj_rank {p0 p1 : Int} (R9 : zRl M) : yJ mL_rank [(1, 1), (0, p0), (0, p1), (1, 529)] mX12_rank [(1, 517), (0, p0), (0, p1)] M (fun _ => True) := by
  obtain ⟨G, s, V, n, F, L, B, e, f, h, m, w⟩ := R9
  obtain ⟨Hw, R, Hb, Hs, Hi, Hc, Hp, HL, HB, He, Hf⟩ := id h
  by_cases hb : 0 ≤ p0 ∧ p0 < G 1
  · by_cases hw : 0 ≤ p1 ∧ p1 < G 0
    · by_cases hp : zPl G p0 p1 = -1
      · by_cases hs : G (20 + 7 * p0 + 1) < 5
        · exact yJ_w m (wo_1 ⟨by decide, by decide⟩ (w.push (w.1.rank hb.1 hb.2 hs hw)) (w_rank (ca_m h w (s_X11_rank Hw Hb Hi.1 R w.1 hb hw hp hs)) (fun r S' M' q => ⟨q.2.1, Or.inl ⟨_, q.1⟩⟩)) (fun r S' M' q => cvo3 q)) (w.push (w.1.rank hb.1 hb.2 hs hw)) (fun N hN => by
            obtain ⟨H, rfl, hs4, hn5, hr⟩ := id hN
            have h5 : 0 ≤ N 517 5 ∧ N 517 5 ≤ 8 := by rw [hn5.1]; exact w.2.2.2.1
            exact ma_g (A := fun M' => zMF N M' ∧ M' 517 7 = 0 ∧ zKp N M' (N 518) ∧ M' 518 = gRank (N 518) p0 p1) (s_X12_rank H w.1 h5 hb hw hp hs) (ma_M w hN)) (fun _ => trivial)
        · exact yJ_w (x := 0) m (wo_2 (by decide) (w_rank (ca_x h w (s_X11_rank_u Hw Hb Hi.1 R w.1 hb hw hp hs)) (fun r S' M' q => ⟨q.2.1, Or.inr (Or.inr (Or.inr q.1))⟩)) (fun r S' M' q => cvt33 (by decide) (by decide) q)) w (fun N hN => by
            obtain ⟨H, rfl, hs4, hn5, hr⟩ := id hN
            have h5 : 0 ≤ N 517 5 ∧ N 517 5 ≤ 8 := by rw [hn5.1]; exact w.2.2.2.1
            exact ma_w (by decide) (A := fun M' => M' = z_up N 517 7 3) (s_X12_rank_u H w.1 hb hw hp hs) (ma_A hN)) (fun c => absurd c (by decide))
      · exact yJ_w (x := 0) m (wo_2 (by decide) (w_rank (ca_x h w (s_X11_rank_z Hw Hb Hi.1 R w.1 hb hw hp)) (fun r S' M' q => ⟨q.2.1, Or.inr (Or.inr (Or.inl q.1))⟩)) (fun r S' M' q => cvt32 (by decide) (by decide) q)) w (fun N hN => by
          obtain ⟨H, rfl, hs4, hn5, hr⟩ := id hN
          have h5 : 0 ≤ N 517 5 ∧ N 517 5 ≤ 8 := by rw [hn5.1]; exact w.2.2.2.1
          exact ma_w (by decide) (A := fun M' => M' = z_up N 517 7 2) (s_X12_rank_z H w.1 hb hw hp) (ma_A hN)) (fun c => absurd c (by decide))
    · exact yJ_w (x := 0) m (wo_2 (by decide) (w_rank (ca_x h w (s_X11_rank_y Hw Hb Hi.1 R w.1 hb hw)) (fun r S' M' q => ⟨q.2.1, Or.inr (Or.inl q.1)⟩)) (fun r S' M' q => cvt31 (by decide) (by decide) q)) w (fun N hN => by
        obtain ⟨H, rfl, hs4, hn5, hr⟩ := id hN
        have h5 : 0 ≤ N 517 5 ∧ N 517 5 ≤ 8 := by rw [hn5.1]; exact w.2.2.2.1
        exact ma_w (by decide) (A := fun M' => M' = z_up N 517 7 1) (s_X12_rank_y H w.1 hb hw) (ma_A hN)) (fun c => absurd c (by decide))
  · exact yJ_w (x := 0) m (wo_2 (by decide) (w_rank (ca_x h w (s_X11_rank_x Hw Hb Hi.1 R w.1 hb)) (fun r S' M' q => ⟨q.2.1, Or.inr (Or.inl q.1)⟩)) (fun r S' M' q => cvt31 (by decide) (by decide) q)) w (fun N hN => by
      obtain ⟨H, rfl, hs4, hn5, hr⟩ := id hN
      have h5 : 0 ≤ N 517 5 ∧ N 517 5 ≤ 8 := by rw [hn5.1]; exact w.2.2.2.1
      exact ma_w (by decide) (A := fun M' => M' = z_up N 517 7 1) (s_X12_rank_x H w.1 hb) (ma_A hN)) (fun c => absurd c (by decide))
theorem jj_removeBallot {p0 : Int} (R9 : zRl M) : yJ mL_removeBallot [(1, 1), (0, p0), (1, 529)] mX12_removeBallot [(1, 517), (0, p0)] M (fun _ => True) := by
  obtain ⟨G, s, V, n, F, L, B, e, f, h, m, w⟩ := R9
  obtain ⟨Hw, R, Hb, Hs, Hi, Hc, Hp, HL, HB, He, Hf⟩ := id h
  by_cases hb : 0 ≤ p0 ∧ p0 < G 1
  · exact yJ_w m (wo_1 ⟨by decide, by decide⟩ (w.push (w.1.rem hb.1 hb.2)) (w_removeBallot (ca_m h w (s_X11_removeBallot Hw Hb Hi.1 R w.1 hb)) (fun r S' M' q => ⟨q.2.1, Or.inl ⟨_, q.1⟩⟩)) (fun r S' M' q => cvo1 q)) (w.push (w.1.rem hb.1 hb.2)) (fun N hN => by
      obtain ⟨H, rfl, hs4, hn5, hr⟩ := id hN
      have h5 : 0 ≤ N 517 5 ∧ N 517 5 ≤ 8 := by rw [hn5.1]; exact w.2.2.2.1
      exact ma_g (A := fun M' => zMF N M' ∧ M' 517 7 = 0 ∧ zKp N M' (N 518) ∧ M' 518 = gRem (N 518) p0) (s_X12_removeBallot H w.1 h5 hb) (ma_M w hN)) (fun _ => trivial)
  · exact yJ_w (x := 0) m (wo_2 (by decide) (w_removeBallot (ca_r h (s_X11_removeBallot_x Hw R w.1 hb)) (fun r S' M' q => ⟨q.2.1, Or.inr q.1⟩)) (fun r S' M' q => cvt11 q)) w (fun N hN => by
      obtain ⟨H, rfl, hs4, hn5, hr⟩ := id hN
      have h5 : 0 ≤ N 517 5 ∧ N 517 5 ≤ 8 := by rw [hn5.1]; exact w.2.2.2.1
      exact ma_w (by decide) (A := fun M' => M' = z_up N 517 7 1) (s_X12_removeBallot_x H w.1 hb) (ma_A hN)) (fun c => absurd c (by decide))
theorem jj_recount {p0 p1 : Int} (R9 : zRl M) : yJ mL_recount [(1, 1), (0, p0), (0, p1), (1, 529)] mX12_recount [(1, 517), (0, p0), (0, p1)] M (fun _ => True) := by
  obtain ⟨G, s, V, n, F, L, B, e, f, h, m, w⟩ := R9
  obtain ⟨Hw, R, Hb, Hs, Hi, Hc, Hp, HL, HB, He, Hf⟩ := id h
  by_cases hb : 0 ≤ p0 ∧ p0 < G 1
  · by_cases hx : 1 ≤ p1 ∧ p1 ≤ 99
    · exact yJ_w m (wo_1 ⟨by decide, by decide⟩ (w.push (w.1.rec hb.1 hb.2 hx)) (w_recount (ca_m h w (s_X11_recount Hw Hb Hi.1 R w.1 hb hx)) (fun r S' M' q => ⟨q.2.1, Or.inl ⟨_, q.1⟩⟩)) (fun r S' M' q => cvo2 q)) (w.push (w.1.rec hb.1 hb.2 hx)) (fun N hN => by
        obtain ⟨H, rfl, hs4, hn5, hr⟩ := id hN
        have h5 : 0 ≤ N 517 5 ∧ N 517 5 ≤ 8 := by rw [hn5.1]; exact w.2.2.2.1
        exact ma_g (A := fun M' => zMF N M' ∧ M' 517 7 = 0 ∧ zKp N M' (N 518) ∧ M' 518 = gRec (N 518) p0 p1) (s_X12_recount H w.1 h5 hb hx) (ma_M w hN)) (fun _ => trivial)
    · exact yJ_w (x := 0) m (wo_2 (by decide) (w_recount (ca_x h w (s_X11_recount_y Hw Hb Hi.1 R w.1 hb hx)) (fun r S' M' q => ⟨q.2.1, Or.inr (Or.inr q.1)⟩)) (fun r S' M' q => cvt22 (by decide) q)) w (fun N hN => by
        obtain ⟨H, rfl, hs4, hn5, hr⟩ := id hN
        have h5 : 0 ≤ N 517 5 ∧ N 517 5 ≤ 8 := by rw [hn5.1]; exact w.2.2.2.1
        exact ma_w (by decide) (A := fun M' => M' = z_up N 517 7 2) (s_X12_recount_y H w.1 hb hx) (ma_A hN)) (fun c => absurd c (by decide))
  · exact yJ_w (x := 0) m (wo_2 (by decide) (w_recount (ca_r h (s_X11_recount_x Hw R w.1 hb)) (fun r S' M' q => ⟨q.2.1, Or.inr (Or.inl q.1)⟩)) (fun r S' M' q => cvt21 (by decide) q)) w (fun N hN => by
      obtain ⟨H, rfl, hs4, hn5, hr⟩ := id hN
      have h5 : 0 ≤ N 517 5 ∧ N 517 5 ≤ 8 := by rw [hn5.1]; exact w.2.2.2.1
      exact ma_w (by decide) (A := fun M' => M' = z_up N 517 7 1) (s_X12_recount_x H w.1 hb) (ma_A hN)) (fun c => absurd c (by decide))
theorem jj_weightOf {p0 : Int} (R9 : zRl M) : yJ mL_weightOf [(1, 1), (0, p0), (1, 529)] mX12_weightOf [(1, 517), (0, p0)] M (fun _ => True) := by
  obtain ⟨G, s, V, n, F, L, B, e, f, h, m, w⟩ := R9
  obtain ⟨Hw, R, Hb, Hs, Hi, Hc, Hp, HL, HB, He, Hf⟩ := id h
  by_cases h1 : 0 ≤ p0 ∧ p0 < G 1
  · exact yJ_w m (wo_1 ⟨by decide, by decide⟩ w (w_weightOf (ca_r h (s_X11_weightOf Hw R w.1 h1)) (fun r S' M' q => ⟨q.2.1, Or.inl ⟨_, q.1⟩⟩)) (fun r S' M' q => cvo1 q)) w (fun N hN => by
      obtain ⟨H, rfl, hs4, hn5, hr⟩ := id hN
      have h5 : 0 ≤ N 517 5 ∧ N 517 5 ≤ 8 := by rw [hn5.1]; exact w.2.2.2.1
      exact ma_g (A := fun M' => M' = z_up N 517 7 0) (s_X12_weightOf H w.1 h1) (ma_A hN)) (fun _ => trivial)
  · exact yJ_w (x := 0) m (wo_2 (by decide) (w_weightOf (ca_r h (s_X11_weightOf_x Hw R w.1 h1)) (fun r S' M' q => ⟨q.2.1, Or.inr q.1⟩)) (fun r S' M' q => cvt11 q)) w (fun N hN => by
      obtain ⟨H, rfl, hs4, hn5, hr⟩ := id hN
      have h5 : 0 ≤ N 517 5 ∧ N 517 5 ≤ 8 := by rw [hn5.1]; exact w.2.2.2.1
      exact ma_w (by decide) (A := fun M' => M' = z_up N 517 7 1) (s_X12_weightOf_x H w.1 h1) (ma_A hN)) (fun c => absurd c (by decide))
theorem jj_rankCount {p0 : Int} (R9 : zRl M) : yJ mL_rankCount [(1, 1), (0, p0), (1, 529)] mX12_rankCount [(1, 517), (0, p0)] M (fun _ => True) := by
  obtain ⟨G, s, V, n, F, L, B, e, f, h, m, w⟩ := R9
  obtain ⟨Hw, R, Hb, Hs, Hi, Hc, Hp, HL, HB, He, Hf⟩ := id h
  by_cases h1 : 0 ≤ p0 ∧ p0 < G 1
  · exact yJ_w m (wo_1 ⟨by decide, by decide⟩ w (w_rankCount (ca_r h (s_X11_rankCount Hw R w.1 h1)) (fun r S' M' q => ⟨q.2.1, Or.inl ⟨_, q.1⟩⟩)) (fun r S' M' q => cvo1 q)) w (fun N hN => by
      obtain ⟨H, rfl, hs4, hn5, hr⟩ := id hN
      have h5 : 0 ≤ N 517 5 ∧ N 517 5 ≤ 8 := by rw [hn5.1]; exact w.2.2.2.1
      exact ma_g (A := fun M' => M' = z_up N 517 7 0) (s_X12_rankCount H w.1 h1) (ma_A hN)) (fun _ => trivial)
  · exact yJ_w (x := 0) m (wo_2 (by decide) (w_rankCount (ca_r h (s_X11_rankCount_x Hw R w.1 h1)) (fun r S' M' q => ⟨q.2.1, Or.inr q.1⟩)) (fun r S' M' q => cvt11 q)) w (fun N hN => by
      obtain ⟨H, rfl, hs4, hn5, hr⟩ := id hN
      have h5 : 0 ≤ N 517 5 ∧ N 517 5 ≤ 8 := by rw [hn5.1]; exact w.2.2.2.1
      exact ma_w (by decide) (A := fun M' => M' = z_up N 517 7 1) (s_X12_rankCount_x H w.1 h1) (ma_A hN)) (fun c => absurd c (by decide))
theorem jj_windAt {p0 p1 : Int} (R9 : zRl M) : yJ mL_windAt [(1, 1), (0, p0), (0, p1), (1, 529)] mX12_windAt [(1, 517), (0, p0), (0, p1)] M (fun _ => True) := by
  obtain ⟨G, s, V, n, F, L, B, e, f, h, m, w⟩ := R9
  obtain ⟨Hw, R, Hb, Hs, Hi, Hc, Hp, HL, HB, He, Hf⟩ := id h
  by_cases hb : 0 ≤ p0 ∧ p0 < G 1
  · by_cases hk : 0 ≤ p1 ∧ p1 < G (20 + 7 * p0 + 1)
    · exact yJ_w m (wo_1 ⟨by decide, by decide⟩ w (w_windAt (ca_r h (s_X11_windAt Hw R w.1 hb hk)) (fun r S' M' q => ⟨q.2.1, Or.inl ⟨_, q.1⟩⟩)) (fun r S' M' q => cvo2 q)) w (fun N hN => by
        obtain ⟨H, rfl, hs4, hn5, hr⟩ := id hN
        have h5 : 0 ≤ N 517 5 ∧ N 517 5 ≤ 8 := by rw [hn5.1]; exact w.2.2.2.1
        exact ma_g (A := fun M' => M' = z_up N 517 7 0) (s_X12_windAt H w.1 hb hk) (ma_A hN)) (fun _ => trivial)
    · exact yJ_w (x := 0) m (wo_2 (by decide) (w_windAt (ca_r h (s_X11_windAt_y Hw R w.1 hb hk)) (fun r S' M' q => ⟨q.2.1, Or.inr (Or.inr q.1)⟩)) (fun r S' M' q => cvt22 (by decide) q)) w (fun N hN => by
        obtain ⟨H, rfl, hs4, hn5, hr⟩ := id hN
        have h5 : 0 ≤ N 517 5 ∧ N 517 5 ≤ 8 := by rw [hn5.1]; exact w.2.2.2.1
        exact ma_w (by decide) (A := fun M' => M' = z_up N 517 7 2) (s_X12_windAt_y H w.1 hb hk) (ma_A hN)) (fun c => absurd c (by decide))
  · exact yJ_w (x := 0) m (wo_2 (by decide) (w_windAt (ca_r h (s_X11_windAt_x Hw R w.1 hb)) (fun r S' M' q => ⟨q.2.1, Or.inr (Or.inl q.1)⟩)) (fun r S' M' q => cvt21 (by decide) q)) w (fun N hN => by
      obtain ⟨H, rfl, hs4, hn5, hr⟩ := id hN
      have h5 : 0 ≤ N 517 5 ∧ N 517 5 ≤ 8 := by rw [hn5.1]; exact w.2.2.2.1
      exact ma_w (by decide) (A := fun M' => M' = z_up N 517 7 1) (s_X12_windAt_x H w.1 hb) (ma_A hN)) (fun c => absurd c (by decide))
theorem jj_rankOf {p0 p1 : Int} (R9 : zRl M) : yJ mL_rankOf [(1, 1), (0, p0), (0, p1), (1, 529)] mX12_rankOf [(1, 517), (0, p0), (0, p1)] M (fun _ => True) := by
  obtain ⟨G, s, V, n, F, L, B, e, f, h, m, w⟩ := R9
  obtain ⟨Hw, R, Hb, Hs, Hi, Hc, Hp, HL, HB, He, Hf⟩ := id h
  by_cases hb : 0 ≤ p0 ∧ p0 < G 1
  · by_cases hw : 0 ≤ p1 ∧ p1 < G 0
    · by_cases hp : zPl G p0 p1 = -1
      · exact yJ_w (x := 0) m (wo_2 (by decide) (w_rankOf (ca_r h (s_X11_rankOf_z Hw R w.1 hb hw hp)) (fun r S' M' q => ⟨q.2.1, Or.inr (Or.inr q.1)⟩)) (fun r S' M' q => cvt22 (by decide) q)) w (fun N hN => by
          obtain ⟨H, rfl, hs4, hn5, hr⟩ := id hN
          have h5 : 0 ≤ N 517 5 ∧ N 517 5 ≤ 8 := by rw [hn5.1]; exact w.2.2.2.1
          exact ma_w (by decide) (A := fun M' => M' = z_up N 517 7 2) (s_X12_rankOf_z H w.1 hb hw hp) (ma_A hN)) (fun c => absurd c (by decide))
      · exact yJ_w m (wo_1 ⟨by decide, by decide⟩ w (w_rankOf (ca_r h (s_X11_rankOf Hw R w.1 hb hw hp)) (fun r S' M' q => ⟨q.2.1, Or.inl ⟨_, q.1⟩⟩)) (fun r S' M' q => cvo2 q)) w (fun N hN => by
          obtain ⟨H, rfl, hs4, hn5, hr⟩ := id hN
          have h5 : 0 ≤ N 517 5 ∧ N 517 5 ≤ 8 := by rw [hn5.1]; exact w.2.2.2.1
          exact ma_g (A := fun M' => M' = z_up N 517 7 0) (s_X12_rankOf H w.1 hb hw hp) (ma_A hN)) (fun _ => trivial)
    · exact yJ_w (x := 0) m (wo_2 (by decide) (w_rankOf (ca_r h (s_X11_rankOf_y Hw R w.1 hb hw)) (fun r S' M' q => ⟨q.2.1, Or.inr (Or.inl q.1)⟩)) (fun r S' M' q => cvt21 (by decide) q)) w (fun N hN => by
        obtain ⟨H, rfl, hs4, hn5, hr⟩ := id hN
        have h5 : 0 ≤ N 517 5 ∧ N 517 5 ≤ 8 := by rw [hn5.1]; exact w.2.2.2.1
        exact ma_w (by decide) (A := fun M' => M' = z_up N 517 7 1) (s_X12_rankOf_y H w.1 hb hw) (ma_A hN)) (fun c => absurd c (by decide))
  · exact yJ_w (x := 0) m (wo_2 (by decide) (w_rankOf (ca_r h (s_X11_rankOf_x Hw R w.1 hb)) (fun r S' M' q => ⟨q.2.1, Or.inr (Or.inl q.1)⟩)) (fun r S' M' q => cvt21 (by decide) q)) w (fun N hN => by
      obtain ⟨H, rfl, hs4, hn5, hr⟩ := id hN
      have h5 : 0 ≤ N 517 5 ∧ N 517 5 ≤ 8 := by rw [hn5.1]; exact w.2.2.2.1
      exact ma_w (by decide) (A := fun M' => M' = z_up N 517 7 1) (s_X12_rankOf_x H w.1 hb) (ma_A hN)) (fun c => absurd c (by decide))
theorem jj_winner (R9 : zRl M) : yJ mL_winner [(1, 1), (1, 529)] mX12_winner [(1, 517)] M (fun _ => True) := by
  obtain ⟨G, s, V, n, F, L, B, e, f, h, m, w⟩ := R9
  obtain ⟨Hw, R, Hb, Hs, Hi, Hc, Hp, HL, HB, He, Hf⟩ := id h
  by_cases hs : zSt G = 0
  · exact yJ_w (x := 0) m (wo_2 (by decide) (w_winner (ca_K h w (s_X11_winner_x Hw R w.1 Hc Hp hs)) (fun r S' M' q => ⟨q.2.1, Or.inr q.1⟩)) (fun r S' M' q => cvt11 q)) w (fun N hN => by
      obtain ⟨H, rfl, hs4, hn5, hr⟩ := id hN
      have h5 : 0 ≤ N 517 5 ∧ N 517 5 ≤ 8 := by rw [hn5.1]; exact w.2.2.2.1
      exact ma_w (by decide) (A := fun M' => zcF N M' 1) (s_X12_winner_x H w.1 hs) (ma_C hN)) (fun c => absurd c (by decide))
  · exact yJ_w m (wo_1 ⟨by decide, by decide⟩ w (w_winner (ca_K h w (s_X11_winner Hw R w.1 Hc Hp hs)) (fun r S' M' q => ⟨q.2.1, Or.inl ⟨_, q.1⟩⟩)) (fun r S' M' q => cvo1 q)) w (fun N hN => by
      obtain ⟨H, rfl, hs4, hn5, hr⟩ := id hN
      have h5 : 0 ≤ N 517 5 ∧ N 517 5 ≤ 8 := by rw [hn5.1]; exact w.2.2.2.1
      exact ma_g (A := fun M' => zcF N M' 0) (s_X12_winner H w.1 hs) (ma_C hN)) (fun _ => trivial)
theorem jj_winnerByTransfers (R9 : zRl M) : yJ mL_winnerByTransfers [(1, 1), (1, 529)] mX12_winnerByTransfers [(1, 517)] M (fun _ => True) := by
  obtain ⟨G, s, V, n, F, L, B, e, f, h, m, w⟩ := R9
  obtain ⟨Hw, R, Hb, Hs, Hi, Hc, Hp, HL, HB, He, Hf⟩ := id h
  by_cases hs : zSt G = 0
  · exact yJ_w (x := 0) m (wo_2 (by decide) (w_winnerByTransfers (ca_K h w (s_X11_winnerByTransfers_x Hw R w.1 Hc Hp hs)) (fun r S' M' q => ⟨q.2.1, Or.inr q.1⟩)) (fun r S' M' q => cvt11 q)) w (fun N hN => by
      obtain ⟨H, rfl, hs4, hn5, hr⟩ := id hN
      have h5 : 0 ≤ N 517 5 ∧ N 517 5 ≤ 8 := by rw [hn5.1]; exact w.2.2.2.1
      exact ma_w (by decide) (A := fun M' => zcF N M' 1) (s_X12_winnerByTransfers_x H w.1 hs) (ma_C hN)) (fun c => absurd c (by decide))
  · exact yJ_w m (wo_1 ⟨by decide, by decide⟩ w (w_winnerByTransfers (ca_K h w (s_X11_winnerByTransfers Hw R w.1 Hc Hp hs)) (fun r S' M' q => ⟨q.2.1, Or.inl ⟨_, q.1⟩⟩)) (fun r S' M' q => cvo1 q)) w (fun N hN => by
      obtain ⟨H, rfl, hs4, hn5, hr⟩ := id hN
      have h5 : 0 ≤ N 517 5 ∧ N 517 5 ≤ 8 := by rw [hn5.1]; exact w.2.2.2.1
      exact ma_g (A := fun M' => zcF N M' 0) (s_X12_winnerByTransfers H w.1 hs) (ma_C hN)) (fun _ => trivial)
theorem jj_votesIn {p0 p1 : Int} (R9 : zRl M) : yJ mL_votesIn [(1, 1), (0, p0), (0, p1), (1, 529)] mX12_votesIn [(1, 517), (0, p0), (0, p1)] M (fun _ => True) := by
  obtain ⟨G, s, V, n, F, L, B, e, f, h, m, w⟩ := R9
  obtain ⟨Hw, R, Hb, Hs, Hi, Hc, Hp, HL, HB, He, Hf⟩ := id h
  by_cases hw : 0 ≤ p1 ∧ p1 < G 0
  · by_cases hi : 0 ≤ p0 ∧ p0 < zRn G
    · by_cases hv : zVr G p0 p1 = -1
      · exact yJ_w (x := 0) m (wo_2 (by decide) (w_votesIn (ca_K h w (s_X11_votesIn_z Hw R w.1 Hc Hp hi hw hv)) (fun r S' M' q => ⟨q.2.1, Or.inr (Or.inr q.1)⟩)) (fun r S' M' q => cvt22 (by decide) q)) w (fun N hN => by
          obtain ⟨H, rfl, hs4, hn5, hr⟩ := id hN
          have h5 : 0 ≤ N 517 5 ∧ N 517 5 ≤ 8 := by rw [hn5.1]; exact w.2.2.2.1
          exact ma_w (by decide) (A := fun M' => zcF N M' 2) (s_X12_votesIn_z H w.1 hi hw hv) (ma_C hN)) (fun c => absurd c (by decide))
      · exact yJ_w m (wo_1 ⟨by decide, by decide⟩ w (w_votesIn (ca_K h w (s_X11_votesIn Hw R w.1 Hc Hp hi hw hv)) (fun r S' M' q => ⟨q.2.1, Or.inl ⟨_, q.1⟩⟩)) (fun r S' M' q => cvo2 q)) w (fun N hN => by
          obtain ⟨H, rfl, hs4, hn5, hr⟩ := id hN
          have h5 : 0 ≤ N 517 5 ∧ N 517 5 ≤ 8 := by rw [hn5.1]; exact w.2.2.2.1
          exact ma_g (A := fun M' => zcF N M' 0) (s_X12_votesIn H w.1 hi hw hv) (ma_C hN)) (fun _ => trivial)
    · exact yJ_w (x := 0) m (wo_2 (by decide) (w_votesIn (ca_K h w (s_X11_votesIn_y Hw R w.1 Hc Hp hi hw)) (fun r S' M' q => ⟨q.2.1, Or.inr (Or.inr q.1)⟩)) (fun r S' M' q => cvt22 (by decide) q)) w (fun N hN => by
        obtain ⟨H, rfl, hs4, hn5, hr⟩ := id hN
        have h5 : 0 ≤ N 517 5 ∧ N 517 5 ≤ 8 := by rw [hn5.1]; exact w.2.2.2.1
        exact ma_w (by decide) (A := fun M' => zcF N M' 2) (s_X12_votesIn_y H w.1 hi hw) (ma_C hN)) (fun c => absurd c (by decide))
  · exact yJ_w (x := 0) m (wo_2 (by decide) (w_votesIn (ca_r h (s_X11_votesIn_x Hw R w.1 hw)) (fun r S' M' q => ⟨q.2.1, Or.inr (Or.inl q.1)⟩)) (fun r S' M' q => cvt21 (by decide) q)) w (fun N hN => by
      obtain ⟨H, rfl, hs4, hn5, hr⟩ := id hN
      have h5 : 0 ≤ N 517 5 ∧ N 517 5 ≤ 8 := by rw [hn5.1]; exact w.2.2.2.1
      exact ma_w (by decide) (A := fun M' => zcF N M' 1) (s_X12_votesIn_x H w.1 hw) (ma_C hN)) (fun c => absurd c (by decide))
theorem jj_exhaustedIn {p0 : Int} (R9 : zRl M) : yJ mL_exhaustedIn [(1, 1), (0, p0), (1, 529)] mX12_exhaustedIn [(1, 517), (0, p0)] M (fun _ => True) := by
  obtain ⟨G, s, V, n, F, L, B, e, f, h, m, w⟩ := R9
  obtain ⟨Hw, R, Hb, Hs, Hi, Hc, Hp, HL, HB, He, Hf⟩ := id h
  by_cases hi : 0 ≤ p0 ∧ p0 < zRn G
  · exact yJ_w m (wo_1 ⟨by decide, by decide⟩ w (w_exhaustedIn (ca_K h w (s_X11_exhaustedIn Hw R w.1 Hc Hp hi)) (fun r S' M' q => ⟨q.2.1, Or.inl ⟨_, q.1⟩⟩)) (fun r S' M' q => cvo1 q)) w (fun N hN => by
      obtain ⟨H, rfl, hs4, hn5, hr⟩ := id hN
      have h5 : 0 ≤ N 517 5 ∧ N 517 5 ≤ 8 := by rw [hn5.1]; exact w.2.2.2.1
      exact ma_g (A := fun M' => zcF N M' 0) (s_X12_exhaustedIn H w.1 hi) (ma_C hN)) (fun _ => trivial)
  · exact yJ_w (x := 0) m (wo_2 (by decide) (w_exhaustedIn (ca_K h w (s_X11_exhaustedIn_x Hw R w.1 Hc Hp hi)) (fun r S' M' q => ⟨q.2.1, Or.inr q.1⟩)) (fun r S' M' q => cvt11 q)) w (fun N hN => by
      obtain ⟨H, rfl, hs4, hn5, hr⟩ := id hN
      have h5 : 0 ≤ N 517 5 ∧ N 517 5 ≤ 8 := by rw [hn5.1]; exact w.2.2.2.1
      exact ma_w (by decide) (A := fun M' => zcF N M' 1) (s_X12_exhaustedIn_x H w.1 hi) (ma_C hN)) (fun c => absurd c (by decide))
theorem jj_eliminatedIn {p0 : Int} (R9 : zRl M) : yJ mL_eliminatedIn [(1, 1), (0, p0), (1, 529)] mX12_eliminatedIn [(1, 517), (0, p0)] M (fun _ => True) := by
  obtain ⟨G, s, V, n, F, L, B, e, f, h, m, w⟩ := R9
  obtain ⟨Hw, R, Hb, Hs, Hi, Hc, Hp, HL, HB, He, Hf⟩ := id h
  by_cases hi : 0 ≤ p0 ∧ p0 < zRn G
  · by_cases hl : zEl (zVr G p0) (zP G p0) = -1
    · exact yJ_w (x := 0) m (wo_2 (by decide) (w_eliminatedIn (ca_K h w (s_X11_eliminatedIn_y Hw R w.1 Hc Hp hi hl)) (fun r S' M' q => ⟨q.2.1, Or.inr q.1⟩)) (fun r S' M' q => cvt11 q)) w (fun N hN => by
        obtain ⟨H, rfl, hs4, hn5, hr⟩ := id hN
        have h5 : 0 ≤ N 517 5 ∧ N 517 5 ≤ 8 := by rw [hn5.1]; exact w.2.2.2.1
        exact ma_w (by decide) (A := fun M' => zcF N M' 1) (s_X12_eliminatedIn_y H w.1 hi ((zEl_in w.1 (zSt_of w.1 hi) hi.1 hi.2).mp hl)) (ma_C hN)) (fun c => absurd c (by decide))
    · exact yJ_w m (wo_1 ⟨by decide, by decide⟩ w (w_eliminatedIn (ca_K h w (s_X11_eliminatedIn Hw R w.1 Hc Hp hi hl)) (fun r S' M' q => ⟨q.2.1, Or.inl ⟨_, q.1⟩⟩)) (fun r S' M' q => cvo1 q)) w (fun N hN => by
        obtain ⟨H, rfl, hs4, hn5, hr⟩ := id hN
        have h5 : 0 ≤ N 517 5 ∧ N 517 5 ≤ 8 := by rw [hn5.1]; exact w.2.2.2.1
        exact ma_g (A := fun M' => zcF N M' 0) (s_X12_eliminatedIn H w.1 hi (fun c => hl ((zEl_in w.1 (zSt_of w.1 hi) hi.1 hi.2).mpr c))) (ma_C hN)) (fun _ => trivial)
  · exact yJ_w (x := 0) m (wo_2 (by decide) (w_eliminatedIn (ca_K h w (s_X11_eliminatedIn_x Hw R w.1 Hc Hp hi)) (fun r S' M' q => ⟨q.2.1, Or.inr q.1⟩)) (fun r S' M' q => cvt11 q)) w (fun N hN => by
      obtain ⟨H, rfl, hs4, hn5, hr⟩ := id hN
      have h5 : 0 ≤ N 517 5 ∧ N 517 5 ≤ 8 := by rw [hn5.1]; exact w.2.2.2.1
      exact ma_w (by decide) (A := fun M' => zcF N M' 1) (s_X12_eliminatedIn_x H w.1 hi) (ma_C hN)) (fun c => absurd c (by decide))
theorem jj_isTieIn {p0 : Int} (R9 : zRl M) : yJ mL_isTieIn [(1, 1), (0, p0), (1, 529)] mX12_isTieIn [(1, 517), (0, p0)] M (fun b => b = 0 ∨ b = 1) := by
  obtain ⟨G, s, V, n, F, L, B, e, f, h, m, w⟩ := R9
  obtain ⟨Hw, R, Hb, Hs, Hi, Hc, Hp, HL, HB, He, Hf⟩ := id h
  by_cases hi : 0 ≤ p0 ∧ p0 < zRn G
  · exact yJ_w m (wo_1 ⟨by decide, by decide⟩ w (w_isTieIn (ca_K h w (s_X11_isTieIn Hw R w.1 Hc Hp hi)) (fun r S' M' q => ⟨q.2.1, Or.inl ⟨_, q.1, zTi_01b _⟩⟩)) (fun r S' M' q => cvo1 q)) w (fun N hN => by
      obtain ⟨H, rfl, hs4, hn5, hr⟩ := id hN
      have h5 : 0 ≤ N 517 5 ∧ N 517 5 ≤ 8 := by rw [hn5.1]; exact w.2.2.2.1
      exact ma_g (A := fun M' => zcF N M' 0) (s_X12_isTieIn H w.1 hi) (ma_C hN)) (fun _ => zTi_01b _)
  · exact yJ_w (x := 0) m (wo_2 (by decide) (w_isTieIn (ca_K h w (s_X11_isTieIn_x Hw R w.1 Hc Hp hi)) (fun r S' M' q => ⟨q.2.1, Or.inr q.1⟩)) (fun r S' M' q => cvt11 q)) w (fun N hN => by
      obtain ⟨H, rfl, hs4, hn5, hr⟩ := id hN
      have h5 : 0 ≤ N 517 5 ∧ N 517 5 ≤ 8 := by rw [hn5.1]; exact w.2.2.2.1
      exact ma_w (by decide) (A := fun M' => zcF N M' 1) (s_X12_isTieIn_x H w.1 hi) (ma_C hN)) (fun c => absurd c (by decide))
theorem jj_roundOfElimination {p0 : Int} (R9 : zRl M) : yJ mL_roundOfElimination [(1, 1), (0, p0), (1, 529)] mX12_roundOfElimination [(1, 517), (0, p0)] M (fun _ => True) := by
  obtain ⟨G, s, V, n, F, L, B, e, f, h, m, w⟩ := R9
  obtain ⟨Hw, R, Hb, Hs, Hi, Hc, Hp, HL, HB, He, Hf⟩ := id h
  by_cases hw : 0 ≤ p0 ∧ p0 < G 0
  · by_cases he : zRe G p0 = -1
    · exact yJ_w (x := 0) m (wo_2 (by decide) (w_roundOfElimination (ca_K h w (s_X11_roundOfElimination_y Hw R w.1 Hc Hp hw he)) (fun r S' M' q => ⟨q.2.1, Or.inr (Or.inr q.1)⟩)) (fun r S' M' q => cvt22 (by decide) q)) w (fun N hN => by
        obtain ⟨H, rfl, hs4, hn5, hr⟩ := id hN
        have h5 : 0 ≤ N 517 5 ∧ N 517 5 ≤ 8 := by rw [hn5.1]; exact w.2.2.2.1
        exact ma_w (by decide) (A := fun M' => zcF N M' 2) (by have t := s_X12_roundOfElimination H w.1 hw; rw [if_pos he, if_pos he] at t; exact t) (ma_C hN)) (fun c => absurd c (by decide))
    · exact yJ_w m (wo_1 ⟨by decide, by decide⟩ w (w_roundOfElimination (ca_K h w (s_X11_roundOfElimination Hw R w.1 Hc Hp hw he)) (fun r S' M' q => ⟨q.2.1, Or.inl ⟨_, q.1⟩⟩)) (fun r S' M' q => cvo2 q)) w (fun N hN => by
        obtain ⟨H, rfl, hs4, hn5, hr⟩ := id hN
        have h5 : 0 ≤ N 517 5 ∧ N 517 5 ≤ 8 := by rw [hn5.1]; exact w.2.2.2.1
        exact ma_g (A := fun M' => zcF N M' 0) (by have t := s_X12_roundOfElimination H w.1 hw; rw [if_neg he, if_neg he] at t; exact t) (ma_C hN)) (fun _ => trivial)
  · exact yJ_w (x := 0) m (wo_2 (by decide) (w_roundOfElimination (ca_r h (s_X11_roundOfElimination_x Hw R w.1 hw)) (fun r S' M' q => ⟨q.2.1, Or.inr (Or.inl q.1)⟩)) (fun r S' M' q => cvt21 (by decide) q)) w (fun N hN => by
      obtain ⟨H, rfl, hs4, hn5, hr⟩ := id hN
      have h5 : 0 ≤ N 517 5 ∧ N 517 5 ≤ 8 := by rw [hn5.1]; exact w.2.2.2.1
      exact ma_w (by decide) (A := fun M' => zcF N M' 1) (s_X12_roundOfElimination_x H w.1 hw) (ma_C hN)) (fun c => absurd c (by decide))
theorem jj_preference {p0 p1 : Int} (R9 : zRl M) : yJ mL_preference [(1, 1), (0, p0), (0, p1), (1, 529)] mX12_preference [(1, 517), (0, p0), (0, p1)] M (fun _ => True) := by
  obtain ⟨G, s, V, n, F, L, B, e, f, h, m, w⟩ := R9
  obtain ⟨Hw, R, Hb, Hs, Hi, Hc, Hp, HL, HB, He, Hf⟩ := id h
  by_cases hw : 0 ≤ p0 ∧ p0 < G 0
  · by_cases ho : 0 ≤ p1 ∧ p1 < G 0
    · exact yJ_w m (wo_1 ⟨by decide, by decide⟩ w (w_preference (ca_r h (s_X11_preference Hw R w.1 hw ho)) (fun r S' M' q => ⟨q.2.1, Or.inl ⟨_, q.1⟩⟩)) (fun r S' M' q => cvo1 q)) w (fun N hN => by
        obtain ⟨H, rfl, hs4, hn5, hr⟩ := id hN
        have h5 : 0 ≤ N 517 5 ∧ N 517 5 ≤ 8 := by rw [hn5.1]; exact w.2.2.2.1
        exact ma_g (A := fun M' => M' = z_up N 517 7 0) (s_X12_preference H w.1 hw ho) (ma_A hN)) (fun _ => trivial)
    · exact yJ_w (x := 0) m (wo_2 (by decide) (w_preference (ca_r h (s_X11_preference_y Hw R w.1 hw ho)) (fun r S' M' q => ⟨q.2.1, Or.inr q.1⟩)) (fun r S' M' q => cvt11 q)) w (fun N hN => by
        obtain ⟨H, rfl, hs4, hn5, hr⟩ := id hN
        have h5 : 0 ≤ N 517 5 ∧ N 517 5 ≤ 8 := by rw [hn5.1]; exact w.2.2.2.1
        exact ma_w (by decide) (A := fun M' => M' = z_up N 517 7 1) (s_X12_preference_x H w.1 (fun c => ho c.2)) (ma_A hN)) (fun c => absurd c (by decide))
  · exact yJ_w (x := 0) m (wo_2 (by decide) (w_preference (ca_r h (s_X11_preference_x Hw R w.1 hw)) (fun r S' M' q => ⟨q.2.1, Or.inr q.1⟩)) (fun r S' M' q => cvt11 q)) w (fun N hN => by
      obtain ⟨H, rfl, hs4, hn5, hr⟩ := id hN
      have h5 : 0 ≤ N 517 5 ∧ N 517 5 ≤ 8 := by rw [hn5.1]; exact w.2.2.2.1
      exact ma_w (by decide) (A := fun M' => M' = z_up N 517 7 1) (s_X12_preference_x H w.1 (fun c => hw c.1)) (ma_A hN)) (fun c => absurd c (by decide))
theorem jj_beats {p0 p1 : Int} (R9 : zRl M) : yJ mL_beats [(1, 1), (0, p0), (0, p1), (1, 529)] mX12_beats [(1, 517), (0, p0), (0, p1)] M (fun b => b = 0 ∨ b = 1) := by
  obtain ⟨G, s, V, n, F, L, B, e, f, h, m, w⟩ := R9
  obtain ⟨Hw, R, Hb, Hs, Hi, Hc, Hp, HL, HB, He, Hf⟩ := id h
  by_cases hw : 0 ≤ p0 ∧ p0 < G 0
  · by_cases ho : 0 ≤ p1 ∧ p1 < G 0
    · exact yJ_w m (wo_1 ⟨by decide, by decide⟩ w (w_beats (ca_r h (s_X11_beats Hw R w.1 hw ho)) (fun r S' M' q => ⟨q.2.1, Or.inl ⟨_, q.1, zite01⟩⟩)) (fun r S' M' q => cvo1 q)) w (fun N hN => by
        obtain ⟨H, rfl, hs4, hn5, hr⟩ := id hN
        have h5 : 0 ≤ N 517 5 ∧ N 517 5 ≤ 8 := by rw [hn5.1]; exact w.2.2.2.1
        exact ma_g (A := fun M' => M' = z_up N 517 7 0) (s_X12_beats H w.1 hw ho) (ma_A hN)) (fun _ => zite01)
    · exact yJ_w (x := 0) m (wo_2 (by decide) (w_beats (ca_r h (s_X11_beats_y Hw R w.1 hw ho)) (fun r S' M' q => ⟨q.2.1, Or.inr q.1⟩)) (fun r S' M' q => cvt11 q)) w (fun N hN => by
        obtain ⟨H, rfl, hs4, hn5, hr⟩ := id hN
        have h5 : 0 ≤ N 517 5 ∧ N 517 5 ≤ 8 := by rw [hn5.1]; exact w.2.2.2.1
        exact ma_w (by decide) (A := fun M' => M' = z_up N 517 7 1) (s_X12_beats_x H w.1 (fun c => ho c.2)) (ma_A hN)) (fun c => absurd c (by decide))
  · exact yJ_w (x := 0) m (wo_2 (by decide) (w_beats (ca_r h (s_X11_beats_x Hw R w.1 hw)) (fun r S' M' q => ⟨q.2.1, Or.inr q.1⟩)) (fun r S' M' q => cvt11 q)) w (fun N hN => by
      obtain ⟨H, rfl, hs4, hn5, hr⟩ := id hN
      have h5 : 0 ≤ N 517 5 ∧ N 517 5 ≤ 8 := by rw [hn5.1]; exact w.2.2.2.1
      exact ma_w (by decide) (A := fun M' => M' = z_up N 517 7 1) (s_X12_beats_x H w.1 (fun c => hw c.1)) (ma_A hN)) (fun c => absurd c (by decide))
theorem jj_victories {p0 : Int} (R9 : zRl M) : yJ mL_victories [(1, 1), (0, p0), (1, 529)] mX12_victories [(1, 517), (0, p0)] M (fun _ => True) := by
  obtain ⟨G, s, V, n, F, L, B, e, f, h, m, w⟩ := R9
  obtain ⟨Hw, R, Hb, Hs, Hi, Hc, Hp, HL, HB, He, Hf⟩ := id h
  by_cases h1 : 0 ≤ p0 ∧ p0 < G 0
  · exact yJ_w m (wo_1 ⟨by decide, by decide⟩ w (w_victories (ca_r h (s_X11_victories Hw R w.1 h1)) (fun r S' M' q => ⟨q.2.1, Or.inl ⟨_, q.1⟩⟩)) (fun r S' M' q => cvo1 q)) w (fun N hN => by
      obtain ⟨H, rfl, hs4, hn5, hr⟩ := id hN
      have h5 : 0 ≤ N 517 5 ∧ N 517 5 ≤ 8 := by rw [hn5.1]; exact w.2.2.2.1
      exact ma_g (A := fun M' => M' = z_up N 517 7 0) (s_X12_victories H w.1 h1) (ma_A hN)) (fun _ => trivial)
  · exact yJ_w (x := 0) m (wo_2 (by decide) (w_victories (ca_r h (s_X11_victories_x Hw R w.1 h1)) (fun r S' M' q => ⟨q.2.1, Or.inr q.1⟩)) (fun r S' M' q => cvt11 q)) w (fun N hN => by
      obtain ⟨H, rfl, hs4, hn5, hr⟩ := id hN
      have h5 : 0 ≤ N 517 5 ∧ N 517 5 ≤ 8 := by rw [hn5.1]; exact w.2.2.2.1
      exact ma_w (by decide) (A := fun M' => M' = z_up N 517 7 1) (s_X12_victories_x H w.1 h1) (ma_A hN)) (fun c => absurd c (by decide))
theorem jj_championOfPairs (R9 : zRl M) : yJ mL_championOfPairs [(1, 1), (1, 529)] mX12_championOfPairs [(1, 517)] M (fun _ => True) := by
  obtain ⟨G, s, V, n, F, L, B, e, f, h, m, w⟩ := R9
  obtain ⟨Hw, R, Hb, Hs, Hi, Hc, Hp, HL, HB, He, Hf⟩ := id h
  by_cases hc : zCh G = -1
  · exact yJ_w (x := 0) m (wo_2 (by decide) (w_championOfPairs (ca_r h (s_X11_championOfPairs_x Hw R w.1 hc)) (fun r S' M' q => ⟨q.2.1, Or.inr q.1⟩)) (fun r S' M' q => cvt11 q)) w (fun N hN => by
      obtain ⟨H, rfl, hs4, hn5, hr⟩ := id hN
      have h5 : 0 ≤ N 517 5 ∧ N 517 5 ≤ 8 := by rw [hn5.1]; exact w.2.2.2.1
      exact ma_w (by decide) (A := fun M' => M' = z_up N 517 7 1) (by have t := s_X12_championOfPairs H w.1; rw [if_pos hc, if_pos hc] at t; exact t) (ma_A hN)) (fun c => absurd c (by decide))
  · exact yJ_w m (wo_1 ⟨by decide, by decide⟩ w (w_championOfPairs (ca_r h (s_X11_championOfPairs Hw R w.1 hc)) (fun r S' M' q => ⟨q.2.1, Or.inl ⟨_, q.1⟩⟩)) (fun r S' M' q => cvo1 q)) w (fun N hN => by
      obtain ⟨H, rfl, hs4, hn5, hr⟩ := id hN
      have h5 : 0 ≤ N 517 5 ∧ N 517 5 ≤ 8 := by rw [hn5.1]; exact w.2.2.2.1
      exact ma_g (A := fun M' => M' = z_up N 517 7 0) (by have t := s_X12_championOfPairs H w.1; rw [if_neg hc, if_neg hc] at t; exact t) (ma_A hN)) (fun _ => trivial)
theorem jj_championByDuels (R9 : zRl M) : yJ mL_championByDuels [(1, 1), (1, 529)] mX12_championByDuels [(1, 517)] M (fun _ => True) := by
  obtain ⟨G, s, V, n, F, L, B, e, f, h, m, w⟩ := R9
  obtain ⟨Hw, R, Hb, Hs, Hi, Hc, Hp, HL, HB, He, Hf⟩ := id h
  by_cases hc : zCh G = -1
  · exact yJ_w (x := 0) m (wo_2 (by decide) (w_championByDuels (ca_r h (s_X11_championByDuels_x Hw R w.1 hc)) (fun r S' M' q => ⟨q.2.1, Or.inr q.1⟩)) (fun r S' M' q => cvt11 q)) w (fun N hN => by
      obtain ⟨H, rfl, hs4, hn5, hr⟩ := id hN
      have h5 : 0 ≤ N 517 5 ∧ N 517 5 ≤ 8 := by rw [hn5.1]; exact w.2.2.2.1
      exact ma_w (by decide) (A := fun M' => M' = z_up N 517 7 1) (by have t := s_X12_championByDuels H w.1; rw [if_pos hc, if_pos hc] at t; exact t) (ma_A hN)) (fun c => absurd c (by decide))
  · exact yJ_w m (wo_1 ⟨by decide, by decide⟩ w (w_championByDuels (ca_r h (s_X11_championByDuels Hw R w.1 hc)) (fun r S' M' q => ⟨q.2.1, Or.inl ⟨_, q.1⟩⟩)) (fun r S' M' q => cvo1 q)) w (fun N hN => by
      obtain ⟨H, rfl, hs4, hn5, hr⟩ := id hN
      have h5 : 0 ≤ N 517 5 ∧ N 517 5 ≤ 8 := by rw [hn5.1]; exact w.2.2.2.1
      exact ma_g (A := fun M' => M' = z_up N 517 7 0) (by have t := s_X12_championByDuels H w.1; rw [if_neg hc, if_neg hc] at t; exact t) (ma_A hN)) (fun _ => trivial)
theorem jj_scoreOf {p0 : Int} (R9 : zRl M) : yJ mL_scoreOf [(1, 1), (0, p0), (1, 529)] mX12_scoreOf [(1, 517), (0, p0)] M (fun _ => True) := by
  obtain ⟨G, s, V, n, F, L, B, e, f, h, m, w⟩ := R9
  obtain ⟨Hw, R, Hb, Hs, Hi, Hc, Hp, HL, HB, He, Hf⟩ := id h
  by_cases h1 : 0 ≤ p0 ∧ p0 < G 0
  · exact yJ_w m (wo_1 ⟨by decide, by decide⟩ w (w_scoreOf (ca_r h (s_X11_scoreOf Hw R w.1 h1)) (fun r S' M' q => ⟨q.2.1, Or.inl ⟨_, q.1⟩⟩)) (fun r S' M' q => cvo1 q)) w (fun N hN => by
      obtain ⟨H, rfl, hs4, hn5, hr⟩ := id hN
      have h5 : 0 ≤ N 517 5 ∧ N 517 5 ≤ 8 := by rw [hn5.1]; exact w.2.2.2.1
      exact ma_g (A := fun M' => M' = z_up N 517 7 0) (s_X12_scoreOf H w.1 h1) (ma_A hN)) (fun _ => trivial)
  · exact yJ_w (x := 0) m (wo_2 (by decide) (w_scoreOf (ca_r h (s_X11_scoreOf_x Hw R w.1 h1)) (fun r S' M' q => ⟨q.2.1, Or.inr q.1⟩)) (fun r S' M' q => cvt11 q)) w (fun N hN => by
      obtain ⟨H, rfl, hs4, hn5, hr⟩ := id hN
      have h5 : 0 ≤ N 517 5 ∧ N 517 5 ≤ 8 := by rw [hn5.1]; exact w.2.2.2.1
      exact ma_w (by decide) (A := fun M' => M' = z_up N 517 7 1) (s_X12_scoreOf_x H w.1 h1) (ma_A hN)) (fun c => absurd c (by decide))
theorem jj_seatAt {p0 : Int} (R9 : zRl M) : yJ mL_seatAt [(1, 1), (0, p0), (1, 529)] mX12_seatAt [(1, 517), (0, p0)] M (fun _ => True) := by
  obtain ⟨G, s, V, n, F, L, B, e, f, h, m, w⟩ := R9
  obtain ⟨Hw, R, Hb, Hs, Hi, Hc, Hp, HL, HB, He, Hf⟩ := id h
  by_cases h1 : 0 ≤ p0 ∧ p0 < G 3
  · exact yJ_w m (wo_1 ⟨by decide, by decide⟩ w (w_seatAt (ca_r h (s_X11_seatAt Hw R w.1 h1)) (fun r S' M' q => ⟨q.2.1, Or.inl ⟨_, q.1⟩⟩)) (fun r S' M' q => cvo1 q)) w (fun N hN => by
      obtain ⟨H, rfl, hs4, hn5, hr⟩ := id hN
      have h5 : 0 ≤ N 517 5 ∧ N 517 5 ≤ 8 := by rw [hn5.1]; exact w.2.2.2.1
      exact ma_g (A := fun M' => M' = z_up N 517 7 0) (s_X12_seatAt H w.1 h1) (ma_A hN)) (fun _ => trivial)
  · exact yJ_w (x := 0) m (wo_2 (by decide) (w_seatAt (ca_r h (s_X11_seatAt_x Hw R w.1 h1)) (fun r S' M' q => ⟨q.2.1, Or.inr q.1⟩)) (fun r S' M' q => cvt11 q)) w (fun N hN => by
      obtain ⟨H, rfl, hs4, hn5, hr⟩ := id hN
      have h5 : 0 ≤ N 517 5 ∧ N 517 5 ≤ 8 := by rw [hn5.1]; exact w.2.2.2.1
      exact ma_w (by decide) (A := fun M' => M' = z_up N 517 7 1) (s_X12_seatAt_x H w.1 h1) (ma_A hN)) (fun c => absurd c (by decide))
theorem jj_errorPosition (R9 : zRl M) : yJ mL_errorPosition [(1, 1), (1, 529)] mX12_errorPosition [(1, 517)] M (fun _ => True) := by
  obtain ⟨G, s, V, n, F, L, B, e, f, h, m, w⟩ := R9
  obtain ⟨Hw, R, Hb, Hs, Hi, Hc, Hp, HL, HB, He, Hf⟩ := id h
  by_cases he : e = -1
  · exact yJ_w (x := 0) m (wo_2 (by decide) (w_errorPosition (ca_r h (s_X11_errorPosition_x (He.trans he))) (fun r S' M' q => ⟨q.2.1, Or.inr q.1⟩)) (fun r S' M' q => cvt11 q)) w (fun N hN => by
      obtain ⟨H, rfl, hs4, hn5, hr⟩ := id hN
      have h5 : 0 ≤ N 517 5 ∧ N 517 5 ≤ 8 := by rw [hn5.1]; exact w.2.2.2.1
      exact ma_w (by decide) (A := fun M' => M' = z_up N 517 7 1) (s_X12_errorPosition_x (by rw [hr.2.2.1, he]; decide)) (ma_A hN)) (fun c => absurd c (by decide))
  · exact yJ_w m (wo_1 ⟨by decide, by decide⟩ w (w_errorPosition (ca_r h (by have t := s_X11_errorPosition (M := M) (fun c => he (He.symm.trans c)); rw [He] at t; exact t)) (fun r S' M' q => ⟨q.2.1, Or.inl ⟨_, q.1⟩⟩)) (fun r S' M' q => cvo1 q)) w (fun N hN => by
      obtain ⟨H, rfl, hs4, hn5, hr⟩ := id hN
      have h5 : 0 ≤ N 517 5 ∧ N 517 5 ≤ 8 := by rw [hn5.1]; exact w.2.2.2.1
      exact ma_g (A := fun M' => M' = z_up N 517 7 0) (by have t := s_X12_errorPosition (M := N) (by rw [hr.2.2.1]; have := w.2.2.2.2.2.2.2.1; omega); rw [hr.2.2.1] at t; exact t) (ma_A hN)) (fun _ => trivial)
theorem jj_failedCommand (R9 : zRl M) : yJ mL_failedCommand [(1, 1), (1, 529)] mX12_failedCommand [(1, 517)] M (fun _ => True) := by
  obtain ⟨G, s, V, n, F, L, B, e, f, h, m, w⟩ := R9
  obtain ⟨Hw, R, Hb, Hs, Hi, Hc, Hp, HL, HB, He, Hf⟩ := id h
  by_cases hf : f = -1
  · exact yJ_w (x := 0) m (wo_2 (by decide) (w_failedCommand (ca_r h (s_X11_failedCommand_x (Hf.trans hf))) (fun r S' M' q => ⟨q.2.1, Or.inr q.1⟩)) (fun r S' M' q => cvt11 q)) w (fun N hN => by
      obtain ⟨H, rfl, hs4, hn5, hr⟩ := id hN
      have h5 : 0 ≤ N 517 5 ∧ N 517 5 ≤ 8 := by rw [hn5.1]; exact w.2.2.2.1
      exact ma_w (by decide) (A := fun M' => M' = z_up N 517 7 1) (s_X12_failedCommand_x (by rw [hr.2.2.2.1, hf]; decide)) (ma_A hN)) (fun c => absurd c (by decide))
  · exact yJ_w m (wo_1 ⟨by decide, by decide⟩ w (w_failedCommand (ca_r h (by have t := s_X11_failedCommand (M := M) (fun c => hf (Hf.symm.trans c)); rw [Hf] at t; exact t)) (fun r S' M' q => ⟨q.2.1, Or.inl ⟨_, q.1⟩⟩)) (fun r S' M' q => cvo1 q)) w (fun N hN => by
      obtain ⟨H, rfl, hs4, hn5, hr⟩ := id hN
      have h5 : 0 ≤ N 517 5 ∧ N 517 5 ≤ 8 := by rw [hn5.1]; exact w.2.2.2.1
      exact ma_g (A := fun M' => M' = z_up N 517 7 0) (by have t := s_X12_failedCommand (M := N) (by rw [hr.2.2.2.1]; have := w.2.2.2.2.2.2.2.2; omega); rw [hr.2.2.2.1] at t; exact t) (ma_A hN)) (fun _ => trivial)
theorem jj_windCount (R9 : zRl M) : yJd mX11_windCount [(1, 1)] mX12_windCount [(1, 517)] M := by
  obtain ⟨G, s, V, n, F, L, B, e, f, h, m, w⟩ := R9
  obtain ⟨Hw, R, Hb, Hs, Hi, Hc, Hp, HL, HB, He, Hf⟩ := id h
  exact yJd_w m (ca_r h (s_X11_windCount Hw R w.1)) w (fun N hN => by
    obtain ⟨H, rfl, hs4, hn5, hr⟩ := id hN
    have h5 : 0 ≤ N 517 5 ∧ N 517 5 ≤ 8 := by rw [hn5.1]; exact w.2.2.2.1
    exact ma_g (A := fun M' => M' = z_up N 517 7 0) (s_X12_windCount H) (ma_A hN))
theorem jj_standingCount (R9 : zRl M) : yJd mX11_standingCount [(1, 1)] mX12_standingCount [(1, 517)] M := by
  obtain ⟨G, s, V, n, F, L, B, e, f, h, m, w⟩ := R9
  obtain ⟨Hw, R, Hb, Hs, Hi, Hc, Hp, HL, HB, He, Hf⟩ := id h
  exact yJd_w m (ca_r h (s_X11_standingCount Hw R w.1)) w (fun N hN => by
    obtain ⟨H, rfl, hs4, hn5, hr⟩ := id hN
    have h5 : 0 ≤ N 517 5 ∧ N 517 5 ≤ 8 := by rw [hn5.1]; exact w.2.2.2.1
    exact ma_g (A := fun M' => M' = z_up N 517 7 0) (s_X12_standingCount H w.1) (ma_A hN))
theorem jj_ballotCount (R9 : zRl M) : yJd mX11_ballotCount [(1, 1)] mX12_ballotCount [(1, 517)] M := by
  obtain ⟨G, s, V, n, F, L, B, e, f, h, m, w⟩ := R9
  obtain ⟨Hw, R, Hb, Hs, Hi, Hc, Hp, HL, HB, He, Hf⟩ := id h
  exact yJd_w m (ca_r h (s_X11_ballotCount Hw R w.1)) w (fun N hN => by
    obtain ⟨H, rfl, hs4, hn5, hr⟩ := id hN
    have h5 : 0 ≤ N 517 5 ∧ N 517 5 ≤ 8 := by rw [hn5.1]; exact w.2.2.2.1
    exact ma_g (A := fun M' => M' = z_up N 517 7 0) (s_X12_ballotCount H) (ma_A hN))
theorem jj_totalWeight (R9 : zRl M) : yJd mX11_totalWeight [(1, 1)] mX12_totalWeight [(1, 517)] M := by
  obtain ⟨G, s, V, n, F, L, B, e, f, h, m, w⟩ := R9
  obtain ⟨Hw, R, Hb, Hs, Hi, Hc, Hp, HL, HB, He, Hf⟩ := id h
  exact yJd_w m (ca_r h (s_X11_totalWeight Hw R w.1)) w (fun N hN => by
    obtain ⟨H, rfl, hs4, hn5, hr⟩ := id hN
    have h5 : 0 ≤ N 517 5 ∧ N 517 5 ≤ 8 := by rw [hn5.1]; exact w.2.2.2.1
    exact ma_g (A := fun M' => M' = z_up N 517 7 0) (s_X12_totalWeight H w.1) (ma_A hN))
theorem jj_roundCount (R9 : zRl M) : yJd mX11_roundCount [(1, 1)] mX12_roundCount [(1, 517)] M := by
  obtain ⟨G, s, V, n, F, L, B, e, f, h, m, w⟩ := R9
  obtain ⟨Hw, R, Hb, Hs, Hi, Hc, Hp, HL, HB, He, Hf⟩ := id h
  exact yJd_w m (ca_K h w (s_X11_roundCount Hw R w.1 Hc Hp)) w (fun N hN => by
    obtain ⟨H, rfl, hs4, hn5, hr⟩ := id hN
    have h5 : 0 ≤ N 517 5 ∧ N 517 5 ≤ 8 := by rw [hn5.1]; exact w.2.2.2.1
    exact ma_g (A := fun M' => zcF N M' 0) (s_X12_roundCount H w.1) (ma_C hN))
theorem jj_spin (R9 : zRl M) : yJd mX11_spin [(1, 1)] mX12_spin [(1, 517)] M := by
  obtain ⟨G, s, V, n, F, L, B, e, f, h, m, w⟩ := R9
  obtain ⟨Hw, R, Hb, Hs, Hi, Hc, Hp, HL, HB, He, Hf⟩ := id h
  exact yJd_w m (ca_m h w (s_X11_spin Hw Hb Hi.1 R w.1)) (w.push (w.1.spin (by omega) (by omega))) (fun N hN => by
    obtain ⟨H, rfl, hs4, hn5, hr⟩ := id hN
    have h5 : 0 ≤ N 517 5 ∧ N 517 5 ≤ 8 := by rw [hn5.1]; exact w.2.2.2.1
    exact ma_g (A := fun M' => zMF N M' ∧ M' 517 7 = 0 ∧ zKp N M' (N 518) ∧ M' 518 = gSpin (N 518) ((5 * (N 518) 2 + 3) % 16)) (s_X12_spin H w.1 h5) (ma_M w hN))
theorem jj_spinValue (R9 : zRl M) : yJd mX11_spinValue [(1, 1)] mX12_spinValue [(1, 517)] M := by
  obtain ⟨G, s, V, n, F, L, B, e, f, h, m, w⟩ := R9
  obtain ⟨Hw, R, Hb, Hs, Hi, Hc, Hp, HL, HB, He, Hf⟩ := id h
  exact yJd_w m (ca_r h (s_X11_spinValue Hw R w.1)) w (fun N hN => by
    obtain ⟨H, rfl, hs4, hn5, hr⟩ := id hN
    have h5 : 0 ≤ N 517 5 ∧ N 517 5 ≤ 8 := by rw [hn5.1]; exact w.2.2.2.1
    exact ma_g (A := fun M' => M' = z_up N 517 7 0) (s_X12_spinValue H) (ma_A hN))
theorem jj_seatCount (R9 : zRl M) : yJd mX11_seatCount [(1, 1)] mX12_seatCount [(1, 517)] M := by
  obtain ⟨G, s, V, n, F, L, B, e, f, h, m, w⟩ := R9
  obtain ⟨Hw, R, Hb, Hs, Hi, Hc, Hp, HL, HB, He, Hf⟩ := id h
  exact yJd_w m (ca_r h (s_X11_seatCount Hw R w.1)) w (fun N hN => by
    obtain ⟨H, rfl, hs4, hn5, hr⟩ := id hN
    have h5 : 0 ≤ N 517 5 ∧ N 517 5 ≤ 8 := by rw [hn5.1]; exact w.2.2.2.1
    exact ma_g (A := fun M' => M' = z_up N 517 7 0) (s_X12_seatCount H) (ma_A hN))
theorem jj_isConsistent (R9 : zRl M) : yJd mX11_isConsistent [(1, 1)] mX12_isConsistent [(1, 517)] M := by
  obtain ⟨G, s, V, n, F, L, B, e, f, h, m, w⟩ := R9
  obtain ⟨Hw, R, Hb, Hs, Hi, Hc, Hp, HL, HB, He, Hf⟩ := id h
  exact yJd_w m (ca_K h w (s_X11_isConsistent Hw R w.1 Hc Hp)) w (fun N hN => by
    obtain ⟨H, rfl, hs4, hn5, hr⟩ := id hN
    have h5 : 0 ≤ N 517 5 ∧ N 517 5 ≤ 8 := by rw [hn5.1]; exact w.2.2.2.1
    exact ma_g (A := fun M' => M' = z_up N 517 7 0) (s_X12_isConsistent) (ma_A hN))
end ZJJ
