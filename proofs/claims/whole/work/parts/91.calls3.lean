/-! dep: 90 -/
/-! ===== undo, save, restore, execute, floats ===== -/
section ZJL
variable {M N M' : zM} {G G' V : Int → Int} {s n e f : Int} {F : Int → Int → Int} {L B : List Int}
theorem zHi.cut (w : zWS G s V n F L B e f) (h : zHh M ∧ M 134 2 = n ∧ ∀ k, 0 ≤ k → k < n → zAR M (136 + 44 * ((M 134 1 + k) % 8)) (F k)) {n2 : Int} (h0 : 0 ≤ n2 ∧ n2 ≤ n) (a2 : M' 134 2 = n2) (a1 : ∀ j, j ≠ 2 → M' 134 j = M 134 j) (e9 : ∀ z, 135 ≤ z → z < 488 → M' z = M z) : zHh M' ∧ M' 134 2 = n2 ∧ ∀ k, 0 ≤ k → k < n2 → zAR M' (136 + 44 * ((M' 134 1 + k) % 8)) (F k) := by
  have h8 := w.2.2.2.1
  have b1 := a1 1 (by decide)
  refine ⟨⟨by rw [a1 0 (by decide)]; exact h.1.1, by rw [b1]; exact h.1.2.1, by rw [a2]; omega, fun k k0 k1 => ⟨by rw [e9 135 (by decide) (by decide)]; exact (h.1.2.2.2 k k0 k1).1, (h.1.2.2.2 k k0 k1).2.of (fun z a b => e9 z (by omega) (by omega))⟩⟩, a2, fun k k0 k1 => ?_⟩
  rw [b1]
  exact (h.2.2 k k0 (by omega)).of (w.2.2.2.2.1 k k0 (by omega)) (fun z a b => e9 z (by omega) (by omega))
/-- a row taken back: the class -/
theorem cc_back {n2 : Int} (h : zCP M G s V n F L B e f) (w : zWS G s V n F L B e f) (h0 : 0 ≤ n2 ∧ n2 ≤ n) (q1 : zAR M' 2 G') (q2 : M' 134 2 = n2) (q3 : ∀ j, j ≠ 2 → M' 134 j = M 134 j) (q4 : ∀ z, z ≠ 134 → z < 2 ∨ 46 ≤ z → M' z = M z) : zCP M' G' s V n2 F L B e f ∧ ∀ z, 517 ≤ z → M' z = M z := by
  obtain ⟨Hw, R, Hb, Hs, Hi, Hc, Hp, HL, HB, He, Hf⟩ := id h
  have e1 := q4 1 (by decide) (by decide)
  exact ⟨⟨Hw.of e1, q1, Hb.of (fun z a b => q4 z (by omega) (by omega)), ⟨Hs.1.of (fun z a b => q4 z (by omega) (by omega)), by rw [e1]; exact Hs.2.1, fun c => (Hs.2.2 c).of (w.2.2.1 c) (fun z a b => q4 z (by omega) (by omega))⟩, zHi.cut w Hi h0 q2 q3 (fun z a b => q4 z (by omega) (by omega)), Hc.of (fun z a b => q4 z (by omega) (by omega)), Hp.of (fun z a b => q4 z (by omega) (by omega)), HL.oz (fun z a b => q4 z (by omega) (by omega)), ⟨HB.1.oz (fun z a b => q4 z (by omega) (by omega)), by rw [q4 513 (by decide) (by decide)]; exact HB.2.1, by rw [q4 513 (by decide) (by decide)]; exact HB.2.2⟩, by rw [e1]; exact He, by rw [e1]; exact Hf⟩, fun z a => q4 z (by omega) (by omega)⟩
theorem mm_back {n2 : Int} (h : zMP N G s V n F L B e f) (h0 : n2 ≤ n) (q1 : ∀ z, z ≠ 517 → z ≠ 518 → M' z = N z) (q2 : ∀ j, j ≠ 5 → j ≠ 7 → M' 517 j = N 517 j) (q5 : M' 517 5 = n2) : zMP M' (M' 518) s V n2 F L B e f ∧ ∀ z, z < 517 ∨ 528 < z → M' z = N z := by
  obtain ⟨H, hg, hs4, hn5, hr⟩ := id h
  refine ⟨⟨H.k q2, rfl, ?_, ⟨q5, fun k j k0 k1 j0 j1 => ?_⟩, ?_, ?_, ?_⟩, fun z hz => q1 z (by omega) (by omega)⟩
  · rw [q2 4 (by decide) (by decide), q1 520 (by decide) (by decide)]; exact hs4
  · rw [q1 519 (by decide) (by decide)]; exact hn5.2 k j k0 (by omega) j0 j1
  · unfold zTy
    rw [q2 13 (by decide) (by decide), q1 523 (by decide) (by decide)]; exact hr.1
  · unfold zTi9
    rw [q2 9 (by decide) (by decide), q1 522 (by decide) (by decide)]; exact hr.2.1
  · rw [q2 10 (by decide) (by decide), q2 11 (by decide) (by decide), q2 6 (by decide) (by decide)]; exact hr.2.2
theorem jj_undo (R9 : zRl M) : yJ mL_undo [(1, 1), (1, 529)] mX12_undo [(1, 517)] M (fun _ => True) := by
  obtain ⟨G, s, V, n, F, L, B, e, f, h, m, w⟩ := R9
  obtain ⟨Hw, R, Hb, Hs, Hi, Hc, Hp, HL, HB, He, Hf⟩ := id h
  have h8 := w.2.2.2.1
  by_cases hn : n = 0
  · exact yJ_w (x := 0) m (wo_2 (by decide) (w_undo (ca_r h (s_X11_undo_x Hw (Hi.2.1.trans hn))) (fun r S' M' q => ⟨q.2.1, Or.inr q.1⟩)) (fun r S' M' q => cvt11 q)) w (fun N hN => by
      obtain ⟨H, rfl, hs4, hn5, hr⟩ := id hN
      exact ma_w (by decide) (A := fun M' => M' = z_up N 517 7 1) (s_X12_undo_x (hn5.1.trans hn)) (ma_A hN)) (fun c => absurd c (by decide))
  · have hF9 : zWF (F (n - 1)) := w.2.2.2.2.1 (n - 1) (by omega) (by omega)
    have R8 : zAR M (136 + 44 * zLs M) (F (n - 1)) := by
      have t := Hi.2.2 (n - 1) (by omega) (by omega)
      unfold zLs
      rw [Hi.2.1]
      exact t
    have w' : zWS (F (n - 1)) s V (n - 1) F L B e f := ⟨hF9, w.2.1, w.2.2.1, ⟨by omega, by omega⟩, fun k k0 k1 => w.2.2.2.2.1 k k0 (by omega), w.2.2.2.2.2⟩
    refine yJ_w m (wo_1 ⟨by decide, by decide⟩ w' (w_undo (ca_g (v := (0, n - 1)) (A := fun M' => zAR M' 2 (F (n - 1)) ∧ M' 134 2 = n - 1 ∧ (∀ j, j ≠ 2 → M' 134 j = M 134 j) ∧ ∀ z, z ≠ 134 → z < 2 ∨ 46 ≤ z → M' z = M z) ?_ (fun M' q => cc_back h w ⟨by omega, by omega⟩ q.1 q.2.1 q.2.2.1 q.2.2.2)) (fun r S' M' q => ⟨q.2.1, Or.inl ⟨_, q.1⟩⟩)) (fun r S' M' q => cvo1 q)) w' (fun N hN => ?_) (fun _ => trivial)
    · have t := s_X11_undo Hw Hi.1 (by rw [Hi.2.1]; omega) R.h R8 hF9
      rw [Hi.2.1] at t
      exact t
    · obtain ⟨H, hg, hs4, hn5, hr⟩ := id hN
      refine z_call_mono (s_X12_undo H (by rw [hn5.1]; omega)) (fun r S' M2 q => ?_)
      obtain ⟨q0, q9, q1, q2, q3, q4, q5⟩ := q
      rw [hn5.1] at q0 q4 q5
      have t := mm_back (n2 := n - 1) hN (by omega) q1 q2 q4
      exact ⟨q9, ⟨_, q0, fun _ => rfl⟩, ⟨M2 518, fun j j0 j1 => (q5 j j0 j1).trans (hn5.2 (n - 1) j (by omega) (by omega) j0 j1), t.1⟩, t.2, q3⟩
theorem jj_restore (R9 : zRl M) : yJ mL_restore [(1, 1), (1, 529)] mX12_restore [(1, 517)] M (fun _ => True) := by
  obtain ⟨G, s, V, n, F, L, B, e, f, h, m, w⟩ := R9
  obtain ⟨Hw, R, Hb, Hs, Hi, Hc, Hp, HL, HB, He, Hf⟩ := id h
  have h8 := w.2.2.2.1
  by_cases hs : s = 1
  · have hV := w.2.2.1 hs
    have w' : zWS V s V 0 F L B e f := ⟨hV, w.2.1, w.2.2.1, ⟨by omega, by omega⟩, fun k k0 k1 => w.2.2.2.2.1 k k0 (by omega), w.2.2.2.2.2⟩
    refine yJ_w m (wo_1 ⟨by decide, by decide⟩ w' (w_restore (ca_g (v := (0, V 1)) (A := fun M' => zAR M' 2 V ∧ M' 134 2 = 0 ∧ (∀ j, j ≠ 2 → M' 134 j = M 134 j) ∧ ∀ z, z ≠ 134 → z < 2 ∨ 46 ≤ z → M' z = M z) (s_X11_restore (G9 := V) Hw (Hs.2.1.trans hs) R.h (Hs.2.2 hs) hV) (fun M' q => cc_back h w ⟨by omega, by omega⟩ q.1 q.2.1 q.2.2.1 q.2.2.2)) (fun r S' M' q => ⟨q.2.1, Or.inl ⟨_, q.1⟩⟩)) (fun r S' M' q => cvo1 q)) w' (fun N hN => ?_) (fun _ => trivial)
    obtain ⟨H, hg, hs4, hn5, hr⟩ := id hN
    refine z_call_mono (s_X12_restore H (hs4.1.trans hs)) (fun r S' M2 q => ?_)
    obtain ⟨q0, q9, q1, q2, q3, q4, q5⟩ := q
    rw [hs4.2 1 (by decide) (by decide)] at q0
    have t := mm_back (n2 := 0) hN (by omega) q1 q2 q4
    exact ⟨q9, ⟨_, q0, fun _ => rfl⟩, ⟨M2 518, fun j j0 j1 => (q5 j j0 j1).trans (hs4.2 j j0 j1), t.1⟩, t.2, q3⟩
  · have hs0 : s = 0 := by have := w.2.1; omega
    exact yJ_w (x := 0) m (wo_2 (by decide) (w_restore (ca_r h (s_X11_restore_x (Hs.2.1.trans hs0))) (fun r S' M' q => ⟨q.2.1, Or.inr q.1⟩)) (fun r S' M' q => cvt11 q)) w (fun N hN => by
      obtain ⟨H, rfl, hs4, hn5, hr⟩ := id hN
      exact ma_w (by decide) (A := fun M' => M' = z_up N 517 7 1) (s_X12_restore_x (hs4.1.trans hs0)) (ma_A hN)) (fun c => absurd c (by decide))
theorem jj_save (R9 : zRl M) : yJd mX11_save [(1, 1)] mX12_save [(1, 517)] M := by
  obtain ⟨G, s, V, n, F, L, B, e, f, h, m, w⟩ := R9
  obtain ⟨Hw, R, Hb, Hs, Hi, Hc, Hp, HL, HB, He, Hf⟩ := id h
  have w' : zWS G 1 G n F L B e f := ⟨w.1, Or.inr rfl, fun _ => w.1, w.2.2.2⟩
  refine yJd_w m (ca_g (A := fun M' => zAR M' 90 G ∧ M' 1 3 = 1 ∧ (∀ j, j ≠ 3 → M' 1 j = M 1 j) ∧ ∀ z, z ≠ 1 → z < 90 ∨ 134 ≤ z → M' z = M z) (s_X11_save Hw Hs.1 R w.1) (fun M' q => ?_)) w' (fun N hN => ?_)
  · obtain ⟨q1, q2, q3, q4⟩ := q
    refine ⟨⟨?_, R.of w.1 (fun z a b => q4 z (by omega) (by omega)), Hb.of (fun z a b => q4 z (by omega) (by omega)), ⟨q1.h, q2, fun _ => q1⟩, zHi.of w Hi (fun z a b => q4 z (by omega) (by omega)), Hc.of (fun z a b => q4 z (by omega) (by omega)), Hp.of (fun z a b => q4 z (by omega) (by omega)), HL.oz (fun z a b => q4 z (by omega) (by omega)), ⟨HB.1.oz (fun z a b => q4 z (by omega) (by omega)), by rw [q4 513 (by decide) (by decide)]; exact HB.2.1, by rw [q4 513 (by decide) (by decide)]; exact HB.2.2⟩, by rw [q3 10 (by decide)]; exact He, by rw [q3 11 (by decide)]; exact Hf⟩, fun z a => q4 z (by omega) (by omega)⟩
    unfold zHw at Hw ⊢
    rw [q3 0 (by decide), q3 1 (by decide), q3 2 (by decide), q3 4 (by decide), q3 5 (by decide), q3 6 (by decide), q3 7 (by decide), q3 8 (by decide), q3 9 (by decide)]
    exact Hw
  · obtain ⟨H, rfl, hs4, hn5, hr⟩ := id hN
    refine ma_g (A := fun M' => (∀ z, z ≠ 517 → z ≠ 520 → M' z = N z) ∧ (∀ j, j ≠ 4 → j ≠ 7 → M' 517 j = N 517 j) ∧ M' 517 7 = 0 ∧ M' 517 4 = 1 ∧ ∀ j, 0 ≤ j → j < 160 → M' 520 j = N 518 j) (s_X12_save H) (fun M' q => ?_)
    obtain ⟨q1, q2, q3, q4, q5⟩ := q
    refine ⟨⟨H.g (fun j hj => q2 j (by omega) (by omega)), q1 518 (by decide) (by decide), ⟨q4, q5⟩, ?_, ?_, ?_, ?_⟩, fun z hz => q1 z (by omega) (by omega), q3⟩
    · rw [q2 5 (by decide) (by decide), q1 519 (by decide) (by decide)]; exact hn5
    · unfold zTy
      rw [q2 13 (by decide) (by decide), q1 523 (by decide) (by decide)]; exact hr.1
    · unfold zTi9
      rw [q2 9 (by decide) (by decide), q1 522 (by decide) (by decide)]; exact hr.2.1
    · rw [q2 10 (by decide) (by decide), q2 11 (by decide) (by decide), q2 6 (by decide) (by decide)]; exact hr.2.2
theorem z_least {P : Nat → Prop} : ∀ N : Nat, (¬ ∀ j : Nat, j < N → P j) → ∃ k, k < N ∧ ¬ P k ∧ ∀ j : Nat, j < k → P j := by
  intro N
  induction N with
  | zero => intro h; exact absurd (fun j hj => absurd hj (Nat.not_lt_zero _)) h
  | succ N ih =>
    intro h
    by_cases c : ∀ j : Nat, j < N → P j
    · refine ⟨N, Nat.lt_succ_self _, fun hP => h (fun j hj => ?_), c⟩
      by_cases e : j = N
      · rw [e]; exact hP
      · exact c j (by omega)
    · obtain ⟨k, k1, k2, k3⟩ := ih c
      exact ⟨k, by omega, k2, k3⟩
theorem jj_execute (R9 : zRl M) : yJ mL_execute [(1, 1), (1, 529)] mX12_execute [(1, 517)] M (fun _ => True) := by
  obtain ⟨G, s, V, n, F, L, B, e, f, h, m, w⟩ := R9
  obtain ⟨Hw, R, Hb, Hs, Hi, Hc, Hp, HL, HB, He, Hf⟩ := id h
  have hlen := w.2.2.2.2.2.2.1.1
  have hE : zEd (zCh9 B) B.length := zCh9_ed hlen (fun i hi => by have := w.2.2.2.2.2.2.1.2 _ (zgetD_mem hi); omega)
  obtain ⟨K, hK⟩ := zLast_ex hE
  have hRh : zRh M B := ⟨HB.2.1, HB.2.2, HB.1, hlen⟩
  have hps := zPs9_rg hE K hK.1
  have hx := zNx_range Hi.1
  by_cases hT : zTok (zCh9 B) B.length K
  · by_cases ha : ∀ j : Nat, j < K + 1 → zXo9 (zGk G (zCh9 B) j) (zCh9 B) (zPs9 (zCh9 B) j)
    · have hG' : zWF (zGk G (zCh9 B) (K + 1)) := zGk_w w.1 (K + 1) (fun j hj => hT.co hK j (by omega)) ha
      have w' : zWS (zGk G (zCh9 B) (K + 1)) s V (hN n) (hF n F G) L [] e f := (w.push hG').buf (Nat.zero_le _) (fun y hy => by cases hy)
      refine yJ_w m (wo_1 ⟨by decide, by decide⟩ w' (w_execute (ca_g (A := fun M' => zEa M M' G (zGk G (zCh9 B) (K + 1))) (s_X11_execute Hw Hb Hi.1 R w.1 Hc Hp hRh rfl hE hK hT ha) (fun M' q => ?_)) (fun r S' M' q => ⟨q.2.1, Or.inl ⟨_, q.1⟩⟩)) (fun r S' M' q => cvo2 q)) w' (fun N hN => ?_) (fun _ => trivial)
      · obtain ⟨q2, q3, q4, q5, q6, ⟨q7, q8⟩, q9, q1⟩ := q
        have e1 := q1 1 (by decide) (by decide) (by omega) (by decide) (by decide)
        exact ⟨⟨Hw.of e1, q2, q3, ⟨Hs.1.of (fun z a b => q1 z (by omega) (by omega) (by omega) (by omega) (by omega)), by rw [e1]; exact Hs.2.1, fun c => (Hs.2.2 c).of (w.2.2.1 c) (fun z a b => q1 z (by omega) (by omega) (by omega) (by omega) (by omega))⟩, zHi.push w Hi q4 (fun z a b c => q1 z (by omega) (by omega) c (by omega) (by omega)), q5, q6, HL.oz (fun z a b => q1 z (by omega) (by omega) (by omega) (by omega) (by omega)), ⟨q9, by rw [q7]; exact HB.2.1, by rw [q8]; exact HB.2.2⟩, by rw [e1]; exact He, by rw [e1]; exact Hf⟩, fun z a => q1 z (by omega) (by omega) (by omega) (by omega) (by omega)⟩
      · obtain ⟨H, rfl, hs4, hn5, hr⟩ := id hN
        have h5 : 0 ≤ N 517 5 ∧ N 517 5 ≤ 8 := by rw [hn5.1]; exact w.2.2.2.1
        refine ma_g (A := fun M' => zRf N M' ∧ M' 518 = zGk (N 518) (zCh9 B) (K + 1) ∧ M' 517 7 = 0 ∧ M' 517 9 = 0 ∧ M' 517 10 = N 517 10 ∧ M' 517 11 = N 517 11 ∧ zKp N M' (N 518)) (s_X12_execute H hr.2.1 hlen rfl hE hK hT h5 hr.2.2.2.2 w.1 ha) (fun M' q => ?_)
        obtain ⟨⟨q1, q2⟩, q3, q4, q5, q6, q7, q8⟩ := q
        refine ⟨⟨H.g (fun j hj => q2 j (by omega) (by omega) (by omega) (by omega) (by omega) (by omega)), q3, ?_, ma_H w hn5 hr.2.2.2.2 q8 (fun j _ _ => rfl), ?_, ⟨q5, fun i hi => absurd hi (Nat.not_lt_zero _)⟩, by rw [q6]; exact hr.2.2.1, by rw [q7]; exact hr.2.2.2.1, ?_⟩, fun z hz => q1 z (by omega) (by omega) (by omega) (by omega) (by omega), q4⟩
        · rw [q2 4 (by decide) (by decide) (by decide) (by decide) (by decide) (by decide), q1 520 (by decide) (by decide) (by decide) (by decide) (by decide)]; exact hs4
        · unfold zTy
          rw [q2 13 (by decide) (by decide) (by decide) (by decide) (by decide) (by decide), q1 523 (by decide) (by decide) (by decide) (by decide) (by decide)]; exact hr.1
        · rw [q2 6 (by decide) (by decide) (by decide) (by decide) (by decide) (by decide)]; exact hr.2.2.2.2
    · obtain ⟨k, k1, k2, k3⟩ := z_least (K + 1) ha
      have w' : zWS G s V n F L [] e (k : Int) := ⟨w.1, w.2.1, w.2.2.1, w.2.2.2.1, w.2.2.2.2.1, w.2.2.2.2.2.1, ⟨Nat.zero_le _, fun y hy => by cases hy⟩, w.2.2.2.2.2.2.2.1, by omega⟩
      refine yJ_w (x := 0) m (wo_2 (by decide) (w_execute (ca_g (A := fun M' => zEb M M' G k) (s_X11_execute_x Hw Hb Hi.1 R w.1 Hc Hp hRh rfl hE hK hT (by omega) k3 k2) (fun M' q => ?_)) (fun r S' M' q => ⟨q.2.1, Or.inr (Or.inr q.1)⟩)) (fun r S' M' q => cvt22 (by decide) q)) w' (fun N hN => ?_) (fun c => absurd c (by decide))
      · obtain ⟨q2, q3, q5, q6, ⟨q7, q8⟩, q9, ⟨q10, q11⟩, q1⟩ := q
        refine ⟨⟨?_, q2, q3, ⟨Hs.1.of (fun z a b => q1 z (by omega) (by omega) (by omega)), by rw [q11 3 (by decide)]; exact Hs.2.1, fun c => (Hs.2.2 c).of (w.2.2.1 c) (fun z a b => q1 z (by omega) (by omega) (by omega))⟩, zHi.of w Hi (fun z a b => q1 z (by omega) (by omega) (by omega)), q5, q6, HL.oz (fun z a b => q1 z (by omega) (by omega) (by omega)), ⟨q9, by rw [q7]; exact HB.2.1, by rw [q8]; exact HB.2.2⟩, by rw [q11 10 (by decide)]; exact He, q10⟩, fun z a => q1 z (by omega) (by omega) (by omega)⟩
        unfold zHw at Hw ⊢
        rw [q11 0 (by decide), q11 1 (by decide), q11 2 (by decide), q11 4 (by decide), q11 5 (by decide), q11 6 (by decide), q11 7 (by decide), q11 8 (by decide), q11 9 (by decide)]
        exact Hw
      · obtain ⟨H, hg, hs4, hn5, hr⟩ := id hN
        have h5 : 0 ≤ N 517 5 ∧ N 517 5 ≤ 8 := by rw [hn5.1]; exact w.2.2.2.1
        rw [← hg] at k2 k3
        refine z_call_mono (s_X12_execute_x H hr.2.1 hlen rfl hE hK hT h5 hr.2.2.2.2 (by rw [hg]; exact w.1) (k := k) (by omega) k3 k2) (fun r S' M2 q => ?_)
        obtain ⟨v, q0, q9, ⟨q1, q2⟩, q3, q4, q5, q6, q7, q8, q10⟩ := q
        refine ⟨q9, ⟨v, q0, fun c => absurd c (by decide)⟩, ⟨M2 518, fun j j0 j1 => (q3 j j0 j1).trans (congrFun hg j), ⟨H.g (fun j hj => q2 j (by omega) (by omega) (by omega) (by omega) (by omega) (by omega)), rfl, ?_, ?_, ?_, ⟨q5, fun i hi => absurd hi (Nat.not_lt_zero _)⟩, by rw [q6]; exact hr.2.2.1, q7, ?_⟩⟩, fun z hz => q1 z (by omega) (by omega) (by omega) (by omega) (by omega), q4⟩
        · rw [q2 4 (by decide) (by decide) (by decide) (by decide) (by decide) (by decide), q1 520 (by decide) (by decide) (by decide) (by decide) (by decide)]; exact hs4
        · rw [q10, q8]; exact hn5
        · unfold zTy
          rw [q2 13 (by decide) (by decide) (by decide) (by decide) (by decide) (by decide), q1 523 (by decide) (by decide) (by decide) (by decide) (by decide)]; exact hr.1
        · rw [q2 6 (by decide) (by decide) (by decide) (by decide) (by decide) (by decide)]; exact hr.2.2.2.2
  · have hce := (zCe_rg hE (p := zPs9 (zCh9 B) K) (by omega) (by omega)).2.2.2.2.2.1
    have w' : zWS G s V n F L [] (zCe (zCh9 B) (zPs9 (zCh9 B) K)) f := ⟨w.1, w.2.1, w.2.2.1, w.2.2.2.1, w.2.2.2.2.1, w.2.2.2.2.2.1, ⟨Nat.zero_le _, fun y hy => by cases hy⟩, by omega, w.2.2.2.2.2.2.2.2⟩
    refine yJ_w (x := 0) m (wo_2 (by decide) (w_execute (ca_g (A := fun M' => zEc M M' (zCe (zCh9 B) (zPs9 (zCh9 B) K))) (s_X11_execute_y Hw hRh rfl hE hK hT) (fun M' q => ?_)) (fun r S' M' q => ⟨q.2.1, Or.inr (Or.inl q.1)⟩)) (fun r S' M' q => cvt21 (by decide) q)) w' (fun N hN => ?_) (fun c => absurd c (by decide))
    · obtain ⟨⟨q7, q8⟩, q9, ⟨q10, q11⟩, q1⟩ := q
      refine ⟨⟨?_, R.of w.1 (fun z a b => q1 z (by omega) (by omega)), Hb.of (fun z a b => q1 z (by omega) (by omega)), ⟨Hs.1.of (fun z a b => q1 z (by omega) (by omega)), by rw [q11 3 (by decide)]; exact Hs.2.1, fun c => (Hs.2.2 c).of (w.2.2.1 c) (fun z a b => q1 z (by omega) (by omega))⟩, zHi.of w Hi (fun z a b => q1 z (by omega) (by omega)), Hc.of (fun z a b => q1 z (by omega) (by omega)), Hp.of (fun z a b => q1 z (by omega) (by omega)), HL.oz (fun z a b => q1 z (by omega) (by omega)), ⟨q9, by rw [q7]; exact HB.2.1, by rw [q8]; exact HB.2.2⟩, q10, by rw [q11 11 (by decide)]; exact Hf⟩, fun z a => q1 z (by omega) (by omega)⟩
      unfold zHw at Hw ⊢
      rw [q11 0 (by decide), q11 1 (by decide), q11 2 (by decide), q11 4 (by decide), q11 5 (by decide), q11 6 (by decide), q11 7 (by decide), q11 8 (by decide), q11 9 (by decide)]
      exact Hw
    · obtain ⟨H, rfl, hs4, hn5, hr⟩ := id hN
      refine ma_w (by decide) (A := fun M' => (∀ z, z ≠ 517 → z ≠ 528 → M' z = N z) ∧ (∀ j, j ≠ 7 → j ≠ 9 → j ≠ 10 → j ≠ 21 → j ≠ 23 → M' 517 j = N 517 j) ∧ M' 517 7 = 1 ∧ M' 517 9 = 0 ∧ M' 517 10 = zCe (zCh9 B) (zPs9 (zCh9 B) K)) (s_X12_execute_m H hr.2.1 hlen rfl hE hK hT) (fun M' q => ?_)
      obtain ⟨q1, q2, q4, q5, q6⟩ := q
      refine ⟨⟨H.g (fun j hj => q2 j (by omega) (by omega) (by omega) (by omega) (by omega)), q1 518 (by decide) (by decide), ?_, ?_, ?_, ⟨q5, fun i hi => absurd hi (Nat.not_lt_zero _)⟩, q6, ?_, ?_⟩, fun z hz => q1 z (by omega) (by omega), q4⟩
      · rw [q2 4 (by decide) (by decide) (by decide) (by decide) (by decide), q1 520 (by decide) (by decide)]; exact hs4
      · rw [q2 5 (by decide) (by decide) (by decide) (by decide) (by decide), q1 519 (by decide) (by decide)]; exact hn5
      · unfold zTy
        rw [q2 13 (by decide) (by decide) (by decide) (by decide) (by decide), q1 523 (by decide) (by decide)]; exact hr.1
      · rw [q2 11 (by decide) (by decide) (by decide) (by decide) (by decide)]; exact hr.2.2.2.1
      · rw [q2 6 (by decide) (by decide) (by decide) (by decide) (by decide)]; exact hr.2.2.2.2
/-! floats -/
theorem zfE_cong {x y a b : Int} (h : zfD x y = zfD a b) : zfE x y = zfE a b := by
  have h2 : FP.fdiv (FP.i2f (Int32.ofInt x)) (FP.i2f (Int32.ofInt y)) = FP.fdiv (FP.i2f (Int32.ofInt a)) (FP.i2f (Int32.ofInt b)) := by
    apply UInt32.toNat_inj.mp
    unfold zfD at h
    exact Int.ofNat.inj h
  unfold zfE
  rw [h2]
def zTf (b y : Int) : Prop := ∃ x z, (0 ≤ x ∧ x < 2048) ∧ (0 < z ∧ z < 2048) ∧ b = zfD x z ∧ y = zfE x z
def zTg (b y : Int) : Prop := y = b ∧ vf_n64 (UInt64.ofNat b.toNat)
theorem jj_winnerShare (R9 : zRl M) : yJf mL_winnerShare [(1, 1), (1, 530)] mX12_winnerShare [(1, 517)] M 3 zTf := by
  obtain ⟨G, s, V, n, F, L, B, e, f, h, m, w⟩ := R9
  obtain ⟨Hw, R, Hb, Hs, Hi, Hc, Hp, HL, HB, He, Hf⟩ := id h
  by_cases hs : zSt G = 0
  · refine yJf_w (x := 0) (y := 0) m (wo_2 (by decide) (w_winnerShare (ca_K h w (s_X11_winnerShare_x Hw R w.1 Hc Hp hs)) (fun r S' M' q => ⟨q.2.1, Or.inr (Or.inl q.1)⟩)) (k := 1) (fun r S' M' q => ?_)) w (fun N hN => ?_) (fun c => absurd c (by decide))
    · obtain ⟨q1, r1, M1, ⟨a1, -, a3, a4⟩, q2⟩ := q
      subst a1
      rcases q2 with ⟨x, y, b1, b2, b3⟩ | ⟨b1, b2, b3⟩ | ⟨b1, b2, b3⟩
      · exact absurd (congrArg Prod.fst b1) (show ¬ ((8 : Nat) = 3) by decide)
      · subst b3; exact ⟨q1, a3, a4, b2⟩
      · exact absurd (congrArg Prod.snd b1) (show ¬ ((4 : Int) = 3) by decide)
    · obtain ⟨H, rfl, hs4, hn5, hr⟩ := id hN
      exact ma_w (by decide) (A := fun M' => zcF N M' 1) (s_X12_winnerShare_x H w.1 hs) (ma_C hN)
  · by_cases hl : zLs9 G = 0
    · refine yJf_w (x := 0) (y := 0) m (wo_2 (by decide) (w_winnerShare (ca_K h w (s_X11_winnerShare_y Hw R w.1 Hc Hp hs hl)) (fun r S' M' q => ⟨q.2.1, Or.inr (Or.inr q.1)⟩)) (k := 2) (fun r S' M' q => ?_)) w (fun N hN => ?_) (fun c => absurd c (by decide))
      · obtain ⟨q1, r1, M1, ⟨a1, -, a3, a4⟩, q2⟩ := q
        subst a1
        rcases q2 with ⟨x, y, b1, b2, b3⟩ | ⟨b1, b2, b3⟩ | ⟨b1, b2, b3⟩
        · exact absurd (congrArg Prod.fst b1) (show ¬ ((8 : Nat) = 3) by decide)
        · exact absurd (congrArg Prod.snd b1) (show ¬ ((3 : Int) = 4) by decide)
        · subst b3; exact ⟨q1, a3, a4, b2⟩
      · obtain ⟨H, rfl, hs4, hn5, hr⟩ := id hN
        exact ma_w (by decide) (A := fun M' => zcF N M' 2) (s_X12_winnerShare_y H w.1 hs hl) (ma_C hN)
    · have hrg := zLs_rg w.1 hs
      have g1 : 0 ≤ zLv G ∧ zLv G < 2048 := ⟨by omega, by omega⟩
      have g2 : 0 < zLs9 G ∧ zLs9 G < 2048 := ⟨by omega, by omega⟩
      refine yJf_w (x := zfD (zLv G) (zLs9 G)) (y := zfE (zLv G) (zLs9 G)) m (wo_1 ⟨by decide, by decide⟩ w (w_winnerShare (ca_K h w (s_X11_winnerShare Hw R w.1 Hc Hp hs hl)) (fun r S' M' q => ⟨q.2.1, Or.inl ⟨_, _, q.1, g1, g2⟩⟩)) (fun r S' M' q => ?_)) w (fun N hN => ?_) (fun _ => ⟨_, _, g1, g2, rfl, rfl⟩)
      · obtain ⟨q1, r1, M1, ⟨a1, -, a3, a4⟩, q2⟩ := q
        subst a1
        rcases q2 with ⟨x, y, b1, b2, b3⟩ | ⟨b1, b2, b3⟩ | ⟨b1, b2, b3⟩
        · have b4 : zfD (zLv G) (zLs9 G) = zfD x y := congrArg Prod.snd b1
          rw [← zfE_cong b4] at b3
          exact ⟨q1, M1, a3, a4, b2, b3⟩
        · exact absurd (congrArg Prod.fst b1) (show ¬ ((3 : Nat) = 8) by decide)
        · exact absurd (congrArg Prod.fst b1) (show ¬ ((3 : Nat) = 8) by decide)
      · obtain ⟨H, rfl, hs4, hn5, hr⟩ := id hN
        exact ma_g (A := fun M' => zcF N M' 0) (s_X12_winnerShare H w.1 hs hl) (ma_C hN)
theorem jj_meanRanks (R9 : zRl M) : yJf mL_meanRanks [(1, 1), (1, 530)] mX12_meanRanks [(1, 517)] M 4 zTg := by
  obtain ⟨G, s, V, n, F, L, B, e, f, h, m, w⟩ := R9
  obtain ⟨Hw, R, Hb, Hs, Hi, Hc, Hp, HL, HB, He, Hf⟩ := id h
  have hn9 := w.1.n
  by_cases hn : G 1 = 0
  · exact yJf_w (x := 0) (y := 0) m (wo_2 (by decide) (w_meanRanks (ca_r h (s_X11_meanRanks_x Hw R hn)) (fun r S' M' q => ⟨q.2.1, Or.inr q.1⟩)) (fun r S' M' q => cvt11d q)) w (fun N hN => by
      obtain ⟨H, rfl, hs4, hn5, hr⟩ := id hN
      exact ma_w (by decide) (A := fun M' => M' = z_up N 517 7 1) (s_X12_meanRanks_x H hn) (ma_A hN)) (fun c => absurd c (by decide))
  · have hrk := zRks_rg w.1
    have g9 : zTg (zdD (zRks G) (G 1)) (zdD (zRks G) (G 1)) := by
      refine ⟨rfl, ?_⟩
      have t := zf_div64 (x := zRks G) (y := G 1) (by omega) (by omega) (by omega) (by omega)
      unfold zdD
      rw [Int.toNat_natCast, UInt64.ofNat_toNat]
      exact t
    exact yJf_w m (wo_1 ⟨by decide, by decide⟩ w (w_meanRanks (ca_r h (s_X11_meanRanks Hw R w.1 (by omega))) (fun r S' M' q => ⟨q.2.1, Or.inl ⟨_, q.1⟩⟩)) (fun r S' M' q => cvo1d q)) w (fun N hN => by
      obtain ⟨H, rfl, hs4, hn5, hr⟩ := id hN
      exact ma_g (A := fun M' => M' = z_up N 517 7 0) (s_X12_meanRanks H w.1 (by omega)) (ma_A hN)) (fun _ => g9)
end ZJL
