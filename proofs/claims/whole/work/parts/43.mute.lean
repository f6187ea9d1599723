/-! dep: 40 41 42 -/
/-! ===== WindElection$Assembly: a ballot is dropped; an assembly is copied ===== -/
theorem zCpy_ne {M : zM} {u a v b n z : Int} (h : z ≠ v) : zCpy M u a v b n z = M z := by
  funext j
  unfold zCpy
  rw [if_neg (fun c => h c.1)]
theorem zCpy_out {M : zM} {u a v b n z j : Int} (h : ¬ (b ≤ j ∧ j < b + n)) : zCpy M u a v b n z j = M z j := by
  unfold zCpy
  rw [if_neg (fun c => h c.2)]
theorem zCpy_in {M : zM} {u a v b n j : Int} (h : b ≤ j ∧ j < b + n) : zCpy M u a v b n v j = M u (a + (j - b)) := by
  unfold zCpy
  rw [if_pos ⟨rfl, h⟩]
theorem zCpy_d {M : zM} {u b n : Int} (hn : 0 ≤ n) : z_up (zCpy M u (b + 1) u b n) u (b + n) (M u (b + 1 + n)) = zCpy M u (b + 1) u b (n + 1) := by
  funext z j
  unfold z_up
  unfold zCpy
  by_cases h1 : z = u ∧ j = b + n
  · obtain ⟨rfl, rfl⟩ := h1
    rw [if_pos ⟨rfl, rfl⟩, if_pos (by omega)]
    congr 1
    omega
  · rw [if_neg h1]
    by_cases h2 : z = u ∧ b ≤ j ∧ j < b + n
    · rw [if_pos h2, if_pos (by omega)]
    · rw [if_neg h2, if_neg (by omega)]
theorem zRow_up {M : zM} {z v j x n : Int} {f : Int → Int} (h : v ≠ z) : z_up (zRow M z f n) v j x = zRow (z_up M v j x) z f n := by
  funext p q
  unfold z_up zRow
  dsimp only
  by_cases h1 : p = v ∧ q = j
  · rw [if_pos h1, if_neg (by omega), if_pos h1]
  · rw [if_neg h1, if_neg h1]
theorem zAs_dis {a c : Int} (ha : zAs a) (hc : zAs c) (h : a ≠ c) : a + 44 ≤ c ∨ c + 44 ≤ a := by
  unfold zAs at ha hc
  omega
section ZKE
variable {M : zM} {a c : Int} {G : Int → Int}
theorem s_X1_dropBallot_k (ha : zAs a) (R : zAR M a G) (hG : zWF G) {b d : Int} (h0 : 0 ≤ b) (h1 : b < G 1) {bc bs : Nat} {Q : zV → zS → zM → Prop} (kk : z_Ex mX1_dropBallot zF 51 [(1, a), (0, b), (1, d), (0, G 1)] [] (zCpy M (a + 3) (b + 1) (a + 3) b (G 1 - 1 - b)) bc bs Q) : ∀ (m : Nat) (k : Int), b + 1 ≤ k → k ≤ G 1 → G 1 - k < m →
    z_Ex mX1_dropBallot zF 23 [(1, a), (0, b), (1, d), (0, k)] [] (zCpy M (a + 3) (b + 1) (a + 3) b (k - 1 - b)) bc bs Q := by
  have o0 := zAs_0 ha
  have o3 := zAs_3 ha
  have hn := hG.n
  intro m
  induction m with
  | zero => intro k a1 a2 a3; omega
  | succ m ih =>
    intro k a1 a2 a3
    refine zp_il3 (q := 24) dX1_dropBallot_23 rfl ?_
    refine zp_al0 (q := 25) dX1_dropBallot_24 rfl ?_
    refine zf_getG (v := G 1) 4 (by first | assumption | exact k2 | exact k46 | exact k90) (by rw [zCpy_ne (by omega)]; exact R.n) rfl fdX1_26 (q := 28) dX1_dropBallot_25 rfl rfl ?_
    refine zr_icmp_ge (q := 51) (q2 := 31) dX1_dropBallot_28 (by decide) rfl (fun h28 => ?_) (fun h28 => ?_)
    · rw [show k = G 1 by omega]
      exact kk
    · have ob := zBl_0 ha (R.h.bl (i := k) (by omega) (by omega))
      refine zp_al0 (q := 32) dX1_dropBallot_31 rfl ?_
      refine zf_getG (v := a + 3) 5 (by first | assumption | exact k2 | exact k46 | exact k90) (by rw [zCpy_ne (by omega)]; exact R.h.p3) rfl fdX1_31 (q := 35) dX1_dropBallot_32 rfl rfl ?_
      refine zp_il3 (q := 36) dX1_dropBallot_35 rfl ?_
      refine zr_iconst (q := 37) dX1_dropBallot_36 rfl (z_in_of rfl) ?_
      refine zr_isub (q := 38) dX1_dropBallot_37 rfl (fun hA hB => by unfold z_in at hA hB ⊢; omega) ?_
      refine zp_al0 (q := 39) dX1_dropBallot_38 rfl ?_
      refine zf_getG (v := a + 3) 5 (by first | assumption | exact k2 | exact k46 | exact k90) (by rw [zCpy_ne (by omega)]; exact R.h.p3) rfl fdX1_31 (q := 42) dX1_dropBallot_39 rfl rfl ?_
      refine zp_il3 (q := 43) dX1_dropBallot_42 rfl ?_
      refine zf_aald (v := M (a + 3) k) (by first | assumption | exact k518 | exact k519 | exact k520 | exact k521 | exact k522 | exact k523 | exact k524 | exact k525 | exact k526 | exact k527 | exact k528 | exact k510 | exact k512 | exact k515 | exact k516 | exact k507 | exact k509 | exact k135 | exact k489 | exact k529 | exact k530) (zCpy_out (by omega)) (by decide) (q := 44) dX1_dropBallot_43 rfl (by omega) (by omega) ?_
      refine zf_aast (by decide) (o3) (ob) (q := 45) dX1_dropBallot_44 rfl (by omega) (by omega) ?_
      refine zp_inc3 (q := 48) dX1_dropBallot_45 rfl rfl rfl (fun hA => by unfold z_in at hA ⊢; omega) ?_
      refine zr_goto (q := 23) dX1_dropBallot_48 (by decide) ?_
      have e := zCpy_d (M := M) (u := a + 3) (b := b) (n := k - 1 - b) (by omega)
      rw [show b + (k - 1 - b) = k - 1 by omega, show b + 1 + (k - 1 - b) = k by omega, show k - 1 - b + 1 = k + 1 - 1 - b by omega] at e
      rw [e]
      exact ih (k + 1) (by omega) (by omega) (by omega)
theorem s_X1_dropBallot (ha : zAs a) (R : zAR M a G) (hG : zWF G) {b : Int} (h0 : 0 ≤ b) (h1 : b < G 1) : z_Call mX1_dropBallot zF [(1, a), (0, b)] M (zpA (1, -1) a (gRem G b) M) := by
  have o0 := zAs_0 ha
  have o3 := zAs_3 ha
  have hn := hG.n
  have hb := R.h.bl h0 (show b < 20 by omega)
  have ob := zBl_0 ha hb
  have kk : z_Ex mX1_dropBallot zF 51 [(1, a), (0, b), (1, M (a + 3) b), (0, G 1)] [] (zCpy M (a + 3) (b + 1) (a + 3) b (G 1 - 1 - b)) mX1_dropBallot.2.2.2.2.2.1 mX1_dropBallot.2.2.2.2.2.2.1 (zpA (1, -1) a (gRem G b) M) := by
    refine zp_al0 (q := 52) dX1_dropBallot_51 rfl ?_
    refine zr_dup (q := 53) dX1_dropBallot_52 rfl (Or.inr rfl) ?_
    refine zf_getG (v := G 1) 4 (by first | assumption | exact k2 | exact k46 | exact k90) (by rw [zCpy_ne (by omega)]; exact R.n) rfl fdX1_26 (q := 56) dX1_dropBallot_53 rfl rfl ?_
    refine zr_iconst (q := 57) dX1_dropBallot_56 rfl (z_in_of rfl) ?_
    refine zr_isub (q := 58) dX1_dropBallot_57 rfl (fun hA hB => by unfold z_in at hA hB ⊢; omega) ?_
    refine zf_putG 4 (by first | assumption | exact k2 | exact k46 | exact k90) rfl fpX1_26 (q := 61) dX1_dropBallot_58 rfl rfl (by decide) (z_fit_i _) ?_
    refine zp_al0 (q := 62) dX1_dropBallot_61 rfl ?_
    refine zf_getG (v := a + 3) 5 (by first | assumption | exact k2 | exact k46 | exact k90) (by rw [z_up_sl (by decide), zCpy_ne (by omega)]; exact R.h.p3) rfl fdX1_31 (q := 65) dX1_dropBallot_62 rfl rfl ?_
    refine zp_al0 (q := 66) dX1_dropBallot_65 rfl ?_
    refine zf_getG (v := G 1 - 1) 4 (by first | assumption | exact k2 | exact k46 | exact k90) (z_up_eq) rfl fdX1_26 (q := 69) dX1_dropBallot_66 rfl rfl ?_
    refine zp_al2 (q := 70) dX1_dropBallot_69 rfl ?_
    refine zf_aast (by decide) (o3) (ob) (q := 71) dX1_dropBallot_70 rfl (by omega) (by omega) ?_
    refine zr_gets (v := (1, -1)) (Cn := "WindElection$Fault") (n := "NONE") (d := "LWindElection$Fault;") (fun C s h => zs_F 0 (by decide) h) (fun _ => z_in_of rfl) (z_all_in (i := 435) (by decide +kernel) (by decide +kernel)) dX1_dropBallot_71 rfl ?_
    refine zr_areturn dX1_dropBallot_74 rfl (Or.inl ⟨_, rfl⟩) ?_
    generalize hM4 : z_up (z_up (zCpy M (a + 3) (b + 1) (a + 3) b (G 1 - 1 - b)) a 4 (G 1 - 1)) (a + 3) (G 1 - 1) (M (a + 3) b) = M4
    have f1 : ∀ z, z ≠ a → z ≠ a + 3 → M4 z = M z := fun z z1 z2 => by rw [← hM4, z_up_ne z2, z_up_ne z1, zCpy_ne z2]
    have f2 : ∀ j, j ≠ 4 → M4 a j = M a j := fun j hj => by rw [← hM4, z_up_ne (by omega), z_up_sl hj, zCpy_ne (by omega)]
    have e3 : ∀ j, M4 (a + 3) j = M (a + 3) (if j < b then j else if j < G 1 - 1 then j + 1 else if j = G 1 - 1 then b else j) := fun j => by
      rw [← hM4]
      by_cases ej : j = G 1 - 1
      · rw [ej, z_up_eq, if_neg (by omega), if_neg (by omega), if_pos rfl]
      · rw [z_up_sl ej, z_up_ne (by omega)]
        by_cases ej2 : b ≤ j ∧ j < G 1 - 1
        · rw [zCpy_in (by omega), if_neg (by omega), if_pos ej2.2]
          congr 1
          omega
        · rw [zCpy_out (by omega)]
          congr 1
          omega
    have hp : zHa M4 a := ⟨by rw [f2 _ (by decide)]; exact R.h.p1, by rw [f2 _ (by decide)]; exact R.h.p2, by rw [f2 _ (by decide)]; exact R.h.p3, fun i i0 i1 => by rw [e3]; exact R.h.bl (by omega) (by omega), fun i j i0 i1 j0 j1 e => by
      rw [e3, e3] at e
      have := R.h.inj (by omega) (by omega) (by omega) (by omega) e
      omega, fun c hc => by
      have hc2 := id hc
      unfold zBl at hc2
      rw [f1 c (by omega) (by omega)]
      exact R.h.bp hc, fun w w0 w1 => by rw [f1 (a + 1) (by omega) (by omega)]; exact R.h.z1 w0 w1⟩
    have e1 : gRem G b 1 = G 1 - 1 := by unfold gRem; rw [if_pos rfl]
    refine ⟨rfl, rfl, R.bal hG hp (fun j j0 j1 j2 => by unfold gRem; rw [if_neg j2, if_neg (by omega), if_neg (by omega)]) (f2 _ (by decide)) (f2 _ (by decide)) (f2 _ (by decide)) (f1 _ (by omega) (by omega)) (f1 _ (by omega) (by omega)) (by rw [e1, ← hM4, z_up_ne (by omega), z_up_eq]) (fun i i0 i1 => ?_), fun z hz => f1 z (by omega) (by omega)⟩
    rw [e1] at i1
    have a9 := gRem_row hG h0 h1 i0 i1
    have e4 := e3 i
    rw [show (if i < b then i else if i < G 1 - 1 then i + 1 else if i = G 1 - 1 then b else i) = (if i < b then i else i + 1) by omega] at e4
    generalize hi9 : (if i < b then i else i + 1) = i9 at a9 e4
    have b0 : 0 ≤ i9 := by rw [← hi9]; split <;> omega
    have b1 : i9 < G 1 := by rw [← hi9]; split <;> omega
    have a0 := a9 0 (by omega) (by omega)
    rw [Int.add_zero, Int.add_zero] at a0
    have hz := hG.sz b0 b1
    have n3 := R.h.bl b0 (show i9 < 20 by omega)
    unfold zBl at n3
    rw [e4, f1 _ (by omega) (by omega), f1 _ (by omega) (by omega), a0, a9 1 (by omega) (by omega)]
    refine ⟨R.bw b0 b1, R.bn b0 b1, fun j j0 j1 => ?_⟩
    rw [Int.add_assoc (20 + 7 * i) 2 j, a9 (2 + j) (by omega) (by omega), ← Int.add_assoc (20 + 7 * i9) 2 j]
    exact R.bj b0 b1 j j0 j1
  refine z_enter (k := 2) rfl rfl rfl ?_
  refine zp_al0 (q := 1) dX1_dropBallot_0 rfl ?_
  refine zp_il1 (q := 2) dX1_dropBallot_1 rfl ?_
  refine zf_callV1 (by first | assumption | exact k2 | exact k46 | exact k90) (s_X1_hasBallot ha R) mtX1_hasBallot wiX1_hasBallot weX1_hasBallot wlX1_75 (q := 5) dX1_dropBallot_2 rfl rfl rfl rfl rfl rfl rfl (fun r S9 M9 h8 hP => ?_) (fun k S9 M9 hP => (z_no hP.1 rfl).elim)
  obtain ⟨rfl, rfl, h9⟩ := hP
  subst M9
  rw [if_pos ⟨h0, h1⟩]
  refine zr_if_ne (q := 12) (q2 := 8) dX1_dropBallot_5 (by decide) rfl (fun h5 => ?_) (fun h5 => ?_)
  · refine zp_al0 (q := 13) dX1_dropBallot_12 rfl ?_
    refine zf_getG (v := a + 3) 5 (by first | assumption | exact k2 | exact k46 | exact k90) (R.h.p3) rfl fdX1_31 (q := 16) dX1_dropBallot_13 rfl rfl ?_
    refine zp_il1 (q := 17) dX1_dropBallot_16 rfl ?_
    refine zf_aald (v := _) (by first | assumption | exact k518 | exact k519 | exact k520 | exact k521 | exact k522 | exact k523 | exact k524 | exact k525 | exact k526 | exact k527 | exact k528 | exact k510 | exact k512 | exact k515 | exact k516 | exact k507 | exact k509 | exact k135 | exact k489 | exact k529 | exact k530) (rfl) (by decide) (q := 18) dX1_dropBallot_17 rfl (by omega) (by omega) ?_
    refine zp_as2 (q := 19) dX1_dropBallot_18 rfl rfl rfl ?_
    refine zp_il1 (q := 20) dX1_dropBallot_19 rfl ?_
    refine zr_iconst (q := 21) dX1_dropBallot_20 rfl (z_in_of rfl) ?_
    refine zr_iadd (q := 22) dX1_dropBallot_21 rfl (fun hA hB => by unfold z_in at hA hB ⊢; omega) ?_
    refine zp_is3 (q := 23) dX1_dropBallot_22 rfl rfl rfl ?_
    have e := s_X1_dropBallot_k ha R hG h0 h1 (d := M (a + 3) b) kk 20 (b + 1) (by omega) (by omega) (by omega)
    rw [show b + 1 - 1 - b = 0 by omega, show zCpy M (a + 3) (b + 1) (a + 3) b 0 = M from zCpy_0 _ _ _ _ _] at e
    exact e
  · exact absurd (by decide) h5
theorem s_X1_dropBallot_x (ha : zAs a) (R : zAR M a G) (hG : zWF G) {b : Int} (h0 : ¬ (0 ≤ b ∧ b < G 1)) : z_Call mX1_dropBallot zF [(1, a), (0, b)] M (zpF 1 (-3) M) := by
  have o0 := zAs_0 ha
  refine z_enter (k := 2) rfl rfl rfl ?_
  refine zp_al0 (q := 1) dX1_dropBallot_0 rfl ?_
  refine zp_il1 (q := 2) dX1_dropBallot_1 rfl ?_
  refine zf_callV1 (by first | assumption | exact k2 | exact k46 | exact k90) (s_X1_hasBallot ha R) mtX1_hasBallot wiX1_hasBallot weX1_hasBallot wlX1_75 (q := 5) dX1_dropBallot_2 rfl rfl rfl rfl rfl rfl rfl (fun r S9 M9 h8 hP => ?_) (fun k S9 M9 hP => (z_no hP.1 rfl).elim)
  obtain ⟨rfl, rfl, h9⟩ := hP
  subst M9
  rw [if_neg h0]
  refine zr_if_ne (q := 12) (q2 := 8) dX1_dropBallot_5 (by decide) rfl (fun h5 => ?_) (fun h5 => ?_)
  · exact absurd rfl h5
  · refine zr_gets (v := (1, -3)) (Cn := "WindElection$Fault") (n := "NO_SUCH_BALLOT") (d := "LWindElection$Fault;") (fun C s h => zs_F 2 (by decide) h) (fun _ => z_in_of rfl) (z_all_in (i := 773) (by decide +kernel) (by decide +kernel)) dX1_dropBallot_8 rfl ?_
    refine zr_areturn dX1_dropBallot_11 rfl (Or.inl ⟨_, rfl⟩) ?_
    exact ⟨rfl, rfl, rfl⟩
theorem s_X2_copyFrom {b o : Int} (ha : zAs a) (hb : zBl a b) (hc : zAs c) (ho : zBl c o) (hne : a + 44 ≤ c ∨ c + 44 ≤ a) (hp : M b 2 = b + 1) (hq : M o 2 = o + 1) : z_Call mX2_copyFrom zF [(1, b), (1, o)] M (zpF 9 0 (zCpy (z_up (z_up M b 0 (M o 0)) b 1 (M o 1)) (o + 1) 0 (b + 1) 0 5)) := by
  have o0 := zBl_0 ha hb
  have o1 := zBl_1 ha hb
  have p0 := zBl_0 hc ho
  have p1 := zBl_1 hc ho
  have hb2 := id hb
  have ho2 := id ho
  unfold zBl at hb2 ho2
  refine z_enter (k := 0) rfl rfl rfl ?_
  refine zp_al0 (q := 1) dX2_copyFrom_0 rfl ?_
  refine zp_al1 (q := 2) dX2_copyFrom_1 rfl ?_
  refine zf_getG (v := M o 0) 0 (by assumption) (rfl) rfl fdX2_15 (q := 5) dX2_copyFrom_2 rfl rfl ?_
  refine zf_putG 0 (by assumption) rfl fpX2_15 (q := 8) dX2_copyFrom_5 rfl rfl (by decide) (z_fit_i _) ?_
  refine zp_al0 (q := 9) dX2_copyFrom_8 rfl ?_
  refine zp_al1 (q := 10) dX2_copyFrom_9 rfl ?_
  refine zf_getG (v := M o 1) 1 (by assumption) (by rw [z_up_ne (by omega)]) rfl fdX2_19 (q := 13) dX2_copyFrom_10 rfl rfl ?_
  refine zf_putG 1 (by assumption) rfl fpX2_19 (q := 16) dX2_copyFrom_13 rfl rfl (by decide) (z_fit_i _) ?_
  refine zp_al1 (q := 17) dX2_copyFrom_16 rfl ?_
  refine zf_getG (v := o + 1) 2 (by assumption) (by rw [z_up_ne (by omega), z_up_ne (by omega)]; exact hq) rfl fdX2_9 (q := 20) dX2_copyFrom_17 rfl rfl ?_
  refine zr_iconst (q := 21) dX2_copyFrom_20 rfl (z_in_of rfl) ?_
  refine zp_al0 (q := 22) dX2_copyFrom_21 rfl ?_
  refine zf_getG (v := b + 1) 2 (by assumption) (by rw [z_up_sl (by decide), z_up_sl (by decide)]; exact hp) rfl fdX2_9 (q := 25) dX2_copyFrom_22 rfl rfl ?_
  refine zr_iconst (q := 26) dX2_copyFrom_25 rfl (z_in_of rfl) ?_
  refine zr_iconst (q := 27) dX2_copyFrom_26 rfl (z_in_of rfl) ?_
  refine zr_copyi (q := 30)  p1.1 p1.2.1 p1.2.2 o1.1 o1.2.1 o1.2.2 rfl (by omega) (by omega) (by omega) (by omega) (by omega) (z_all_in (i := 427) (by decide +kernel) (by decide +kernel)) (z_all_in (i := 429) (by decide +kernel) (by decide +kernel)) (z_all_in (i := 428) (by decide +kernel) (by decide +kernel)) (z_all_in (i := 60) (by decide +kernel) (by decide +kernel)) (by decide) rfl (by decide +kernel) dX2_copyFrom_27 rfl ?_
  refine zr_return dX2_copyFrom_30 rfl ?_
  exact ⟨rfl, rfl, rfl⟩
theorem s_X1_copyFrom_k (ha : zAs a) (hc : zAs c) (hne : a + 44 ≤ c ∨ c + 44 ≤ a) (Ha : zHa M a) (Hc : zHa M c) {bc bs : Nat} {Q : zV → zS → zM → Prop} (kk : z_Ex mX1_copyFrom zF 46 [(1, a), (1, c), (0, 8)] [] (zRow (zRow M (a + 1) (M (c + 1)) 8) (a + 2) (M (c + 2)) 8) bc bs Q) : ∀ (m : Nat) (k : Int), 0 ≤ k → k ≤ 8 → 8 - k < m →
    z_Ex mX1_copyFrom zF 10 [(1, a), (1, c), (0, k)] [] (zRow (zRow M (a + 1) (M (c + 1)) k) (a + 2) (M (c + 2)) k) bc bs Q := by
  have o0 := zAs_0 ha
  have o1 := zAs_1 ha
  have o2 := zAs_2 ha
  have p0 := zAs_0 hc
  have p1 := zAs_1 hc
  have p2 := zAs_2 hc
  intro m
  induction m with
  | zero => intro k a1 a2 a3; omega
  | succ m ih =>
    intro k a1 a2 a3
    refine zp_il2 (q := 11) dX1_copyFrom_10 rfl ?_
    refine zr_bipush (q := 13) dX1_copyFrom_11 rfl (z_in_of rfl) (by decide +kernel) ?_
    refine zr_icmp_ge (q := 46) (q2 := 16) dX1_copyFrom_13 (by decide) rfl (fun h13 => ?_) (fun h13 => ?_)
    · have e : k = 8 := by omega
      subst e
      exact kk
    · refine zp_al0 (q := 17) dX1_copyFrom_16 rfl ?_
      refine zf_getG (v := a + 1) 1 (by first | assumption | exact k2 | exact k46 | exact k90) (by rw [zRow_ne _ _ _ _ (by omega), zRow_ne _ _ _ _ (by omega)]; exact Ha.p1) rfl fdX1_15 (q := 20) dX1_copyFrom_17 rfl rfl ?_
      refine zp_il2 (q := 21) dX1_copyFrom_20 rfl ?_
      refine zp_al1 (q := 22) dX1_copyFrom_21 rfl ?_
      refine zf_getG (v := c + 1) 1 (by first | assumption | exact k2 | exact k46 | exact k90) (by rw [zRow_ne _ _ _ _ (by omega), zRow_ne _ _ _ _ (by omega)]; exact Hc.p1) rfl fdX1_15 (q := 25) dX1_copyFrom_22 rfl rfl ?_
      refine zp_il2 (q := 26) dX1_copyFrom_25 rfl ?_
      refine zf_zald (v := M (c + 1) k) (by first | assumption | exact k518 | exact k519 | exact k520 | exact k521 | exact k522 | exact k523 | exact k524 | exact k525 | exact k526 | exact k527 | exact k528 | exact k510 | exact k512 | exact k515 | exact k516 | exact k507 | exact k509 | exact k135 | exact k489 | exact k529 | exact k530) (by rw [zRow_ne _ _ _ _ (by omega), zRow_ne _ _ _ _ (by omega)]) (q := 27) dX1_copyFrom_26 rfl (by omega) (by omega) ?_
      refine zf_zast (by first | assumption | exact k518 | exact k519 | exact k520 | exact k521 | exact k522 | exact k523 | exact k524 | exact k525 | exact k526 | exact k527 | exact k528 | exact k510 | exact k512 | exact k515 | exact k516 | exact k507 | exact k509 | exact k135 | exact k489 | exact k529 | exact k530) (q := 28) dX1_copyFrom_27 rfl (by omega) (by omega) (Hc.z1 (by omega) (by omega)) ?_
      refine zp_al0 (q := 29) dX1_copyFrom_28 rfl ?_
      refine zf_getG (v := a + 2) 2 (by first | assumption | exact k2 | exact k46 | exact k90) (by rw [z_up_ne (by omega), zRow_ne _ _ _ _ (by omega), zRow_ne _ _ _ _ (by omega)]; exact Ha.p2) rfl fdX1_19 (q := 32) dX1_copyFrom_29 rfl rfl ?_
      refine zp_il2 (q := 33) dX1_copyFrom_32 rfl ?_
      refine zp_al1 (q := 34) dX1_copyFrom_33 rfl ?_
      refine zf_getG (v := c + 2) 2 (by first | assumption | exact k2 | exact k46 | exact k90) (by rw [z_up_ne (by omega), zRow_ne _ _ _ _ (by omega), zRow_ne _ _ _ _ (by omega)]; exact Hc.p2) rfl fdX1_19 (q := 37) dX1_copyFrom_34 rfl rfl ?_
      refine zp_il2 (q := 38) dX1_copyFrom_37 rfl ?_
      refine zf_iald (v := M (c + 2) k) (by first | assumption | exact k518 | exact k519 | exact k520 | exact k521 | exact k522 | exact k523 | exact k524 | exact k525 | exact k526 | exact k527 | exact k528 | exact k510 | exact k512 | exact k515 | exact k516 | exact k507 | exact k509 | exact k135 | exact k489 | exact k529 | exact k530) (by rw [z_up_ne (by omega), zRow_ne _ _ _ _ (by omega), zRow_ne _ _ _ _ (by omega)]) (q := 39) dX1_copyFrom_38 rfl (by omega) (by omega) ?_
      refine zf_iast (by first | assumption | exact k518 | exact k519 | exact k520 | exact k521 | exact k522 | exact k523 | exact k524 | exact k525 | exact k526 | exact k527 | exact k528 | exact k510 | exact k512 | exact k515 | exact k516 | exact k507 | exact k509 | exact k135 | exact k489 | exact k529 | exact k530) (q := 40) dX1_copyFrom_39 rfl (by omega) (by omega) ?_
      refine zp_inc2 (q := 43) dX1_copyFrom_40 rfl rfl rfl (fun hA => by unfold z_in at hA ⊢; omega) ?_
      refine zr_goto (q := 10) dX1_copyFrom_43 (by decide) ?_
      have e : z_up (z_up (zRow (zRow M (a + 1) (M (c + 1)) k) (a + 2) (M (c + 2)) k) (a + 1) k (M (c + 1) k)) (a + 2) k (M (c + 2) k) = zRow (zRow M (a + 1) (M (c + 1)) (k + 1)) (a + 2) (M (c + 2)) (k + 1) := by
        rw [zRow_up (by omega), zRow_s _ _ _ a1, zRow_s _ _ _ a1]
      rw [e]
      exact ih (k + 1) (by omega) (by omega) (by omega)
/-- what stands while the ballots are copied -/
def zCI (M M' : zM) (a c : Int) (G : Int → Int) (k : Int) : Prop := (∀ z, z < a ∨ a + 44 ≤ z → M' z = M z) ∧ zHa M' a ∧ (M' a 0 = G 0 ∧ M' a 3 = G 3 ∧ M' a 4 = G 1) ∧ (∀ w, 0 ≤ w → w < 8 → M' (a + 1) w = M (c + 1) w ∧ M' (a + 2) w = M (c + 2) w) ∧
  ∀ i, 0 ≤ i → i < k → M' (M' (a + 3) i) 0 = G (20 + 7 * i) ∧ M' (M' (a + 3) i) 1 = G (20 + 7 * i + 1) ∧ ∀ j, 0 ≤ j → j < G (20 + 7 * i + 1) → M' (M' (a + 3) i + 1) j = G (20 + 7 * i + 2 + j)
theorem s_X1_copyFrom_m (ha : zAs a) (hc : zAs c) (hne : a + 44 ≤ c ∨ c + 44 ≤ a) (R : zAR M c G) (hG : zWF G) {bc bs : Nat} : ∀ (m : Nat) (k : Int) (M' : zM), 0 ≤ k → k ≤ G 1 → G 1 - k < m → zCI M M' a c G k →
    z_Ex mX1_copyFrom zF 64 [(1, a), (1, c), (0, k)] [] M' bc bs (zpA (9, 0) a G M) := by
  have o0 := zAs_0 ha
  have o3 := zAs_3 ha
  have p0 := zAs_0 hc
  have p3 := zAs_3 hc
  have hn := hG.n
  have hw := hG.w
  intro m
  induction m with
  | zero => intro k M' a1 a2 a3; omega
  | succ m ih =>
    intro k M' a1 a2 a3 hI
    obtain ⟨i1, i2, i3, i4, i5⟩ := id hI
    have ec := i1 c (by omega)
    have ec3 := i1 (c + 3) (by omega)
    refine zp_il2 (q := 65) dX1_copyFrom_64 rfl ?_
    refine zp_al1 (q := 66) dX1_copyFrom_65 rfl ?_
    refine zf_getG (v := G 1) 4 (by first | assumption | exact k2 | exact k46 | exact k90) (by rw [ec]; exact R.n) rfl fdX1_26 (q := 69) dX1_copyFrom_66 rfl rfl ?_
    refine zr_icmp_ge (q := 93) (q2 := 72) dX1_copyFrom_69 (by decide) rfl (fun h69 => ?_) (fun h69 => ?_)
    · refine zp_al0 (q := 94) dX1_copyFrom_93 rfl ?_
      refine zp_al1 (q := 95) dX1_copyFrom_94 rfl ?_
      refine zf_getG (v := G 2) 6 (by first | assumption | exact k2 | exact k46 | exact k90) (by rw [ec]; exact R.sp) rfl fdX1_35 (q := 98) dX1_copyFrom_95 rfl rfl ?_
      refine zf_putG 6 (by first | assumption | exact k2 | exact k46 | exact k90) rfl fpX1_35 (q := 101) dX1_copyFrom_98 rfl rfl (by decide) (z_fit_i _) ?_
      refine zr_return dX1_copyFrom_101 rfl ?_
      have e : k = G 1 := by omega
      subst e
      have f1 : ∀ z, z ≠ a → z_up M' a 6 (G 2) z = M' z := fun z z1 => z_up_ne z1
      have f2 : ∀ j, j ≠ 6 → z_up M' a 6 (G 2) a j = M' a j := fun j hj => z_up_sl hj
      refine ⟨rfl, rfl, ⟨⟨by rw [f2 _ (by decide)]; exact i2.p1, by rw [f2 _ (by decide)]; exact i2.p2, by rw [f2 _ (by decide)]; exact i2.p3, by rw [f1 _ (by omega)]; exact i2.2.2.2.1, by rw [f1 _ (by omega)]; exact i2.2.2.2.2.1, fun x hx => ?_, by rw [f1 _ (by omega)]; exact i2.2.2.2.2.2.2⟩, by rw [f2 _ (by decide)]; exact i3.1, by rw [f2 _ (by decide)]; exact i3.2.1, by rw [f2 _ (by decide)]; exact i3.2.2, z_up_eq, fun w w0 w1 => by rw [f1 _ (by omega), (i4 w w0 (by omega)).1]; exact R.st w0 w1, ⟨fun w w0 w1 => ?_, fun s s0 s1 => ?_⟩, fun i x0 x1 => ?_⟩, fun z hz => by rw [f1 _ (by omega)]; exact i1 z hz⟩
      · have hx2 := id hx
        unfold zBl at hx2
        rw [f1 x (by omega)]
        exact i2.bp hx
      · rw [f1 _ (by omega), (i4 w w0 (by omega)).2]
        exact R.seat.1 w w0 w1
      · have h9 := R.seat.2 s s0 s1
        rw [f1 _ (by omega), (i4 _ h9.1 (by omega)).2]
        exact h9
      · have hb := i2.bl x0 (show i < 20 by omega)
        unfold zBl at hb
        rw [f1 (a + 3) (by omega), f1 _ (by omega), f1 _ (by omega)]
        exact i5 i x0 x1
    · have hb := i2.bl (i := k) (by omega) (by omega)
      have ob := zBl_0 ha hb
      have hb9 := id hb
      unfold zBl at hb9
      have hc9 := R.h.bl (i := k) (by omega) (by omega)
      have hc8 := id hc9
      unfold zBl at hc8
      refine zp_al0 (q := 73) dX1_copyFrom_72 rfl ?_
      refine zf_getG (v := a + 3) 5 (by first | assumption | exact k2 | exact k46 | exact k90) (i2.p3) rfl fdX1_31 (q := 76) dX1_copyFrom_73 rfl rfl ?_
      refine zp_il2 (q := 77) dX1_copyFrom_76 rfl ?_
      refine zf_aald (v := _) (by first | assumption | exact k518 | exact k519 | exact k520 | exact k521 | exact k522 | exact k523 | exact k524 | exact k525 | exact k526 | exact k527 | exact k528 | exact k510 | exact k512 | exact k515 | exact k516 | exact k507 | exact k509 | exact k135 | exact k489 | exact k529 | exact k530) (rfl) (by decide) (q := 78) dX1_copyFrom_77 rfl (by omega) (by omega) ?_
      refine zp_al1 (q := 79) dX1_copyFrom_78 rfl ?_
      refine zf_getG (v := c + 3) 5 (by first | assumption | exact k2 | exact k46 | exact k90) (by rw [ec]; exact R.h.p3) rfl fdX1_31 (q := 82) dX1_copyFrom_79 rfl rfl ?_
      refine zp_il2 (q := 83) dX1_copyFrom_82 rfl ?_
      refine zf_aald (v := M (c + 3) k) (by first | assumption | exact k518 | exact k519 | exact k520 | exact k521 | exact k522 | exact k523 | exact k524 | exact k525 | exact k526 | exact k527 | exact k528 | exact k510 | exact k512 | exact k515 | exact k516 | exact k507 | exact k509 | exact k135 | exact k489 | exact k529 | exact k530) (by rw [ec3]) (by decide) (q := 84) dX1_copyFrom_83 rfl (by omega) (by omega) ?_
      refine zf_callV1 (by assumption) (s_X2_copyFrom ha hb hc hc9 hne (i2.bp hb) (by rw [i1 _ (by omega)]; exact R.h.bp hc9)) mtX2_copyFrom wiX2_copyFrom weX2_copyFrom wlX1_39 (q := 87) dX1_copyFrom_84 rfl rfl rfl rfl rfl rfl rfl (fun r S9 M9 h8 hP => ?_) (fun k S9 M9 hP => (z_no hP.1 rfl).elim)
      obtain ⟨rfl, rfl, h9⟩ := hP
      subst M9
      refine zp_inc2 (q := 90) dX1_copyFrom_87 rfl rfl rfl (fun hA => by unfold z_in at hA ⊢; omega) ?_
      refine zr_goto (q := 64) dX1_copyFrom_90 (by decide) ?_
      generalize hM4 : zCpy (z_up (z_up M' (M' (a + 3) k) 0 (M' (M (c + 3) k) 0)) (M' (a + 3) k) 1 (M' (M (c + 3) k) 1)) (M (c + 3) k + 1) 0 (M' (a + 3) k + 1) 0 5 = M4
      have f1 : ∀ z, z ≠ M' (a + 3) k → z ≠ M' (a + 3) k + 1 → M4 z = M' z := fun z z2 z3 => by rw [← hM4, zCpy_ne z3, z_up_ne z2, z_up_ne z2]
      have e3 := f1 (a + 3) (by omega) (by omega)
      have ea := f1 a (by omega) (by omega)
      have e1 := f1 (a + 1) (by omega) (by omega)
      have e2 := f1 (a + 2) (by omega) (by omega)
      refine ih (k + 1) M4 (by omega) (by omega) (by omega) ⟨fun z hz => by rw [f1 z (by omega) (by omega)]; exact i1 z hz, ⟨by rw [ea]; exact i2.p1, by rw [ea]; exact i2.p2, by rw [ea]; exact i2.p3, by rw [e3]; exact i2.2.2.2.1, by rw [e3]; exact i2.2.2.2.2.1, fun x hx => ?_, by rw [e1]; exact i2.2.2.2.2.2.2⟩, by rw [ea]; exact i3, by rw [e1, e2]; exact i4, fun i x0 x1 => ?_⟩
      · by_cases ex : x = M' (a + 3) k
        · rw [ex, ← hM4, zCpy_ne (by omega), z_up_sl (by decide), z_up_sl (by decide)]
          exact i2.bp hb
        · have hx2 := id hx
          unfold zBl at hx2
          rw [f1 x ex (by omega)]
          exact i2.bp hx
      · rw [e3]
        by_cases ei : i = k
        · subst ei
          have hz := hG.sz x0 (show i < G 1 by omega)
          refine ⟨?_, ?_, fun j j0 j1 => ?_⟩
          · rw [← hM4, zCpy_ne (by omega), z_up_sl (by decide), z_up_eq, i1 _ (by omega)]
            exact R.bw x0 (by omega)
          · rw [← hM4, zCpy_ne (by omega), z_up_eq, i1 _ (by omega)]
            exact R.bn x0 (by omega)
          · rw [← hM4, zCpy_in (by omega), z_up_ne (by omega), z_up_ne (by omega), i1 _ (by omega), show 0 + (j - 0) = j by omega]
            exact R.bj x0 (by omega) j j0 j1
        · have n1 := fun e => ei (i2.inj x0 (by omega) a1 (by omega) e)
          have n2 := i2.up hb x0 (by omega) n1
          rw [f1 _ n1 n2.1, f1 _ n2.2.1 n2.2.2]
          exact i5 i x0 (by omega)
theorem s_X1_copyFrom (ha : zAs a) (hc : zAs c) (hne9 : a ≠ c) (Ha : zHa M a) (R : zAR M c G) (hG : zWF G) : z_Call mX1_copyFrom zF [(1, a), (1, c)] M (zpA (9, 0) a G M) := by
  have o0 := zAs_0 ha
  have p0 := zAs_0 hc
  have hne := zAs_dis ha hc hne9
  have hn := hG.n
  have Ha1 : zHa (z_up M a 0 (G 0)) a := by
    refine ⟨by rw [z_up_sl (by decide)]; exact Ha.p1, by rw [z_up_sl (by decide)]; exact Ha.p2, by rw [z_up_sl (by decide)]; exact Ha.p3, by rw [z_up_ne (by omega)]; exact Ha.2.2.2.1, by rw [z_up_ne (by omega)]; exact Ha.2.2.2.2.1, fun x hx => ?_, by rw [z_up_ne (by omega)]; exact Ha.2.2.2.2.2.2⟩
    have hx2 := id hx
    unfold zBl at hx2
    rw [z_up_ne (by omega)]
    exact Ha.bp hx
  have Hc1 : zHa (z_up M a 0 (G 0)) c := R.h.of (fun z z0 z1 => z_up_ne (by omega))
  refine z_enter (k := 1) rfl rfl rfl ?_
  refine zp_al0 (q := 1) dX1_copyFrom_0 rfl ?_
  refine zp_al1 (q := 2) dX1_copyFrom_1 rfl ?_
  refine zf_getG (v := G 0) 0 (by first | assumption | exact k2 | exact k46 | exact k90) (R.w) rfl fdX1_9 (q := 5) dX1_copyFrom_2 rfl rfl ?_
  refine zf_putG 0 (by first | assumption | exact k2 | exact k46 | exact k90) rfl fpX1_9 (q := 8) dX1_copyFrom_5 rfl rfl (by decide) (z_fit_i _) ?_
  refine zr_iconst (q := 9) dX1_copyFrom_8 rfl (z_in_of rfl) ?_
  refine zp_is2 (q := 10) dX1_copyFrom_9 rfl rfl rfl ?_
  have e := s_X1_copyFrom_k ha hc hne Ha1 Hc1 (bc := mX1_copyFrom.2.2.2.2.2.1) (bs := mX1_copyFrom.2.2.2.2.2.2.1) (Q := zpA (9, 0) a G M) ?_ 9 0 (by omega) (by omega) (by omega)
  · rw [zRow_0, zRow_0] at e
    exact e
  generalize hM3 : zRow (zRow (z_up M a 0 (G 0)) (a + 1) (z_up M a 0 (G 0) (c + 1)) 8) (a + 2) (z_up M a 0 (G 0) (c + 2)) 8 = M3
  have f1 : ∀ z, z ≠ a → z ≠ a + 1 → z ≠ a + 2 → M3 z = M z := fun z z1 z2 z3 => by rw [← hM3, zRow_ne _ _ _ _ z3, zRow_ne _ _ _ _ z2, z_up_ne z1]
  have f2 : ∀ j, M3 a j = z_up M a 0 (G 0) a j := fun j => by rw [← hM3, zRow_ne _ _ _ _ (by omega), zRow_ne _ _ _ _ (by omega)]
  have f3 : ∀ w, 0 ≤ w → w < 8 → M3 (a + 1) w = M (c + 1) w := fun w w0 w1 => by rw [← hM3, zRow_ne _ _ _ _ (by omega), zRow_at _ _ _ w0 w1, z_up_ne (by omega)]
  have f4 : ∀ w, 0 ≤ w → w < 8 → M3 (a + 2) w = M (c + 2) w := fun w w0 w1 => by rw [← hM3, zRow_at _ _ _ w0 w1, z_up_ne (by omega)]
  refine zp_al0 (q := 47) dX1_copyFrom_46 rfl ?_
  refine zp_al1 (q := 48) dX1_copyFrom_47 rfl ?_
  refine zf_getG (v := G 3) 3 (by first | assumption | exact k2 | exact k46 | exact k90) (by rw [f1 c (by omega) (by omega) (by omega)]; exact R.s) rfl fdX1_23 (q := 51) dX1_copyFrom_48 rfl rfl ?_
  refine zf_putG 3 (by first | assumption | exact k2 | exact k46 | exact k90) rfl fpX1_23 (q := 54) dX1_copyFrom_51 rfl rfl (by decide) (z_fit_i _) ?_
  refine zp_al0 (q := 55) dX1_copyFrom_54 rfl ?_
  refine zp_al1 (q := 56) dX1_copyFrom_55 rfl ?_
  refine zf_getG (v := G 1) 4 (by first | assumption | exact k2 | exact k46 | exact k90) (by rw [z_up_ne (by omega), f1 c (by omega) (by omega) (by omega)]; exact R.n) rfl fdX1_26 (q := 59) dX1_copyFrom_56 rfl rfl ?_
  refine zf_putG 4 (by first | assumption | exact k2 | exact k46 | exact k90) rfl fpX1_26 (q := 62) dX1_copyFrom_59 rfl rfl (by decide) (z_fit_i _) ?_
  refine zr_iconst (q := 63) dX1_copyFrom_62 rfl (z_in_of rfl) ?_
  refine zp_is2 (q := 64) dX1_copyFrom_63 rfl rfl rfl ?_
  generalize hM5 : z_up (z_up M3 a 3 (G 3)) a 4 (G 1) = M5
  have g1 : ∀ z, z ≠ a → M5 z = M3 z := fun z z1 => by rw [← hM5, z_up_ne z1, z_up_ne z1]
  have g2 : ∀ j, j ≠ 0 → j ≠ 3 → j ≠ 4 → M5 a j = M a j := fun j j0 j3 j4 => by rw [← hM5, z_up_sl j4, z_up_sl j3, f2, z_up_sl j0]
  have e3 : M5 (a + 3) = M (a + 3) := by rw [g1 _ (by omega), f1 _ (by omega) (by omega) (by omega)]
  refine s_X1_copyFrom_m ha hc hne R hG 21 0 M5 (by omega) (by omega) (by omega) ⟨fun z hz => by rw [g1 z (by omega), f1 z (by omega) (by omega) (by omega)], ⟨by rw [g2 _ (by decide) (by decide) (by decide)]; exact Ha.p1, by rw [g2 _ (by decide) (by decide) (by decide)]; exact Ha.p2, by rw [g2 _ (by decide) (by decide) (by decide)]; exact Ha.p3, by rw [e3]; exact Ha.2.2.2.1, by rw [e3]; exact Ha.2.2.2.2.1, fun x hx => ?_, fun w w0 w1 => by rw [g1 _ (by omega), f3 w w0 w1]; exact R.h.z1 w0 w1⟩, ⟨by rw [← hM5, z_up_sl (by decide), z_up_sl (by decide), f2, z_up_eq], by rw [← hM5, z_up_sl (by decide), z_up_eq], by rw [← hM5, z_up_eq]⟩, fun w w0 w1 => ⟨by rw [g1 _ (by omega), f3 w w0 w1], by rw [g1 _ (by omega), f4 w w0 w1]⟩, fun i i0 i1 => by omega⟩
  have hx2 := id hx
  unfold zBl at hx2
  rw [g1 x (by omega), f1 x (by omega) (by omega) (by omega)]
  exact Ha.bp hx
end ZKE
