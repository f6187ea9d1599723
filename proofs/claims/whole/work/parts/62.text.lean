/-! dep: 60 61 -/
/-! ===== WindElection$Text, and the lines of the class ===== -/
def zTx (M : zM) (t : Int) (L : List Int) : Prop := M t 0 = t + 1 ∧ M t 1 = L.length ∧ ∀ i : Nat, i < L.length → M (t + 1) i = L.getD i 0
def zDg (n : Int) : List Int := if 10 ≤ n then [48 + n / 10, 48 + n % 10] else [48 + n % 10]
theorem zg_1 {L K : List Int} {i : Nat} (h : i < L.length) : (L ++ K).getD i 0 = L.getD i 0 := by
  rw [List.getD_eq_getElem?_getD, List.getD_eq_getElem?_getD, List.getElem?_append_left h]
theorem zg_2 {L : List Int} {x : Int} : (L ++ [x]).getD L.length 0 = x := by
  rw [List.getD_eq_getElem?_getD, List.getElem?_append_right (Nat.le_refl _), Nat.sub_self]
  rfl
theorem zDg_len (n : Int) : (zDg n).length ≤ 2 := by
  unfold zDg
  split <;> simp
def zTt (t : Int) : Prop := t = 511 ∨ t = 514
theorem zTt_0 {t : Int} (h : zTt t) : zO t 7 := by
  rcases h with rfl | rfl
  · exact k511
  · exact k514
theorem zTt_1 {t : Int} (h : zTt t) : zR (t + 1) 12 60 := by
  rcases h with rfl | rfl
  · exact k512
  · exact k515
section ZTX
variable {M : zM} {G : Int → Int} {t : Int} {L : List Int}
theorem zTx.of {M' : zM} (h : zTx M t L) (e0 : M' t = M t) (e1 : M' (t + 1) = M (t + 1)) : zTx M' t L := by
  unfold zTx
  rw [e0, e1]
  exact h
theorem s_X9_clear (ht : zTt t) (h0 : M t 0 = t + 1) : z_Call mX9_clear zF [(1, t)] M (fun r S' M' => r = (9, 0) ∧ S' = zF ∧ zTx M' t [] ∧ ∀ z, z ≠ t → z ≠ t + 1 → M' z = M z) := by
  have o0 := zTt_0 ht
  refine z_enter (k := 0) rfl rfl rfl ?_
  refine zp_al0 (q := 1) dX9_clear_0 rfl ?_
  refine zr_iconst (q := 2) dX9_clear_1 rfl (z_in_of rfl) ?_
  refine zf_putG 1 (by first | assumption | exact k511 | exact k514) rfl fpX9_15 (q := 5) dX9_clear_2 rfl rfl (by decide) (z_fit_i _) ?_
  refine zr_return dX9_clear_5 rfl ?_
  exact ⟨rfl, rfl, ⟨by rw [z_up_sl (by decide)]; exact h0, z_up_eq, fun i hi => absurd hi (Nat.not_lt_zero _)⟩, fun z a _ => z_up_ne a⟩
theorem s_X9_append (ht : zTt t) (h : zTx M t L) (hl : L.length < 60) {x : Int} (hx : 0 ≤ x ∧ x < 65536) : z_Call mX9_append zF [(1, t), (0, x)] M (fun r S' M' => r = (0, 1) ∧ S' = zF ∧ zTx M' t (L ++ [x]) ∧ ∀ z, z ≠ t → z ≠ t + 1 → M' z = M z) := by
  have o0 := zTt_0 ht
  have o1 := zTt_1 ht
  refine z_enter (k := 0) rfl rfl rfl ?_
  refine zp_al0 (q := 1) dX9_append_0 rfl ?_
  refine zf_getG (v := L.length) 1 (by first | assumption | exact k511 | exact k514) (h.2.1) rfl fdX9_15 (q := 4) dX9_append_1 rfl rfl ?_
  refine zr_bipush (q := 6) dX9_append_4 rfl (z_in_of rfl) (by decide +kernel) ?_
  refine zr_icmp_lt (q := 11) (q2 := 9) dX9_append_6 (by decide) rfl (fun h6 => ?_) (fun h6 => ?_)
  · refine zp_al0 (q := 12) dX9_append_11 rfl ?_
    refine zf_getG (v := t + 1) 0 (by first | assumption | exact k511 | exact k514) (h.1) rfl fdX9_9 (q := 15) dX9_append_12 rfl rfl ?_
    refine zp_al0 (q := 16) dX9_append_15 rfl ?_
    refine zf_getG (v := L.length) 1 (by first | assumption | exact k511 | exact k514) (h.2.1) rfl fdX9_15 (q := 19) dX9_append_16 rfl rfl ?_
    refine zp_il1 (q := 20) dX9_append_19 rfl ?_
    refine zf_cast (o1) (q := 21) dX9_append_20 rfl (by omega) (by omega) (by omega) (by omega) ?_
    refine zp_al0 (q := 22) dX9_append_21 rfl ?_
    refine zr_dup (q := 23) dX9_append_22 rfl (Or.inr rfl) ?_
    refine zf_getG (v := L.length) 1 (by first | assumption | exact k511 | exact k514) (by rw [z_up_ne (by omega)]; exact h.2.1) rfl fdX9_15 (q := 26) dX9_append_23 rfl rfl ?_
    refine zr_iconst (q := 27) dX9_append_26 rfl (z_in_of rfl) ?_
    refine zr_iadd (q := 28) dX9_append_27 rfl (fun hA hB => by unfold z_in at hA hB ⊢; omega) ?_
    refine zf_putG 1 (by first | assumption | exact k511 | exact k514) rfl fpX9_15 (q := 31) dX9_append_28 rfl rfl (by decide) (z_fit_i _) ?_
    refine zr_iconst (q := 32) dX9_append_31 rfl (z_in_of rfl) ?_
    refine zr_ireturn dX9_append_32 rfl (z_fit_z (by decide)) ?_
    refine ⟨rfl, rfl, ⟨by rw [z_up_sl (by decide), z_up_ne (by omega)]; exact h.1, by rw [z_up_eq, List.length_append]; rfl, fun i hi => ?_⟩, fun z a b => by rw [z_up_ne a, z_up_ne b]⟩
    rw [List.length_append] at hi
    rw [z_up_ne (by omega)]
    by_cases e : i = L.length
    · rw [e, z_up_eq, zg_2]
    · have hi2 : i < L.length := by
        have : i < L.length + 1 := hi
        omega
      rw [z_up_sl (by omega), zg_1 hi2]
      exact h.2.2 i hi2
  · exact absurd h6 (by omega)
theorem s_X9_append_x (ht : zTt t) (h : zTx M t L) (hl : ¬ L.length < 60) {x : Int} : z_Call mX9_append zF [(1, t), (0, x)] M (zpF 0 0 M) := by
  have o0 := zTt_0 ht
  refine z_enter (k := 0) rfl rfl rfl ?_
  refine zp_al0 (q := 1) dX9_append_0 rfl ?_
  refine zf_getG (v := L.length) 1 (by first | assumption | exact k511 | exact k514) (h.2.1) rfl fdX9_15 (q := 4) dX9_append_1 rfl rfl ?_
  refine zr_bipush (q := 6) dX9_append_4 rfl (z_in_of rfl) (by decide +kernel) ?_
  refine zr_icmp_lt (q := 11) (q2 := 9) dX9_append_6 (by decide) rfl (fun h6 => ?_) (fun h6 => ?_)
  · exact absurd h6 (by omega)
  · refine zr_iconst (q := 10) dX9_append_9 rfl (z_in_of rfl) ?_
    refine zr_ireturn dX9_append_10 rfl (z_fit_z (by decide)) ?_
    exact ⟨rfl, rfl, rfl⟩
theorem s_X9_appendNumber (ht : zTt t) (h : zTx M t L) (hl : L.length < 58) {n : Int} (hn : 0 ≤ n ∧ n < 100) : z_Call mX9_appendNumber zF [(1, t), (0, n)] M (fun r S' M' => r = (9, 0) ∧ S' = zF ∧ zTx M' t (L ++ zDg n) ∧ ∀ z, z ≠ t → z ≠ t + 1 → M' z = M z) := by
  have o0 := zTt_0 ht
  refine z_enter (k := 0) rfl rfl rfl ?_
  refine zp_il1 (q := 1) dX9_appendNumber_0 rfl ?_
  refine zr_bipush (q := 3) dX9_appendNumber_1 rfl (z_in_of rfl) (by decide +kernel) ?_
  refine zr_icmp_lt (q := 19) (q2 := 6) dX9_appendNumber_3 (by decide) rfl (fun h3 => ?_) (fun h3 => ?_)
  · refine zp_al0 (q := 20) dX9_appendNumber_19 rfl ?_
    refine zr_bipush (q := 22) dX9_appendNumber_20 rfl (z_in_of rfl) (by decide +kernel) ?_
    refine zp_il1 (q := 23) dX9_appendNumber_22 rfl ?_
    refine zr_bipush (q := 25) dX9_appendNumber_23 rfl (z_in_of rfl) (by decide +kernel) ?_
    refine zr_irem (q := 26) dX9_appendNumber_25 rfl (by omega) (by omega) ?_
    refine zr_iadd (q := 27) dX9_appendNumber_26 rfl (fun hA hB => by unfold z_in at hA hB ⊢; omega) ?_
    refine zr_i2c (q := 28) dX9_appendNumber_27 rfl ?_
    rw [show (48 + n % 10) % 65536 = 48 + n % 10 by omega]
    first
    | have sA := s_X9_append (x := 48 + n % 10) ht x1 (by rw [List.length_append]; show L.length + 1 < 60; omega) (by omega)
    | have sA := s_X9_append (x := 48 + n % 10) ht h (by omega) (by omega)
    refine zf_callV1 (by first | assumption | exact k511 | exact k514) (sA) mtX9_append wiX9_append weX9_append wlX9_19 (q := 31) dX9_appendNumber_28 rfl rfl rfl rfl rfl rfl rfl (fun r S9 M9 h8 hP => ?_) (fun k S9 M9 hP => (z_no hP.1 rfl).elim)
    obtain ⟨rfl, rfl, y1, y2⟩ := hP
    refine zr_pop (q := 32) dX9_appendNumber_31 rfl (Or.inl rfl) ?_
    refine zr_return dX9_appendNumber_32 rfl ?_
    first
    | (have t10 : 10 ≤ n := by omega
       have e : L ++ zDg n = L ++ [48 + n / 10] ++ [48 + n % 10] := by unfold zDg; rw [if_pos t10, List.append_assoc]; rfl
       exact ⟨rfl, rfl, by rw [e]; exact y1, fun z a b => (y2 z a b).trans (x2 z a b)⟩)
    | (have e : zDg n = [48 + n % 10] := by unfold zDg; rw [if_neg (by omega)]
       exact ⟨rfl, rfl, by rw [e]; exact y1, y2⟩)
  · refine zp_al0 (q := 7) dX9_appendNumber_6 rfl ?_
    refine zr_bipush (q := 9) dX9_appendNumber_7 rfl (z_in_of rfl) (by decide +kernel) ?_
    refine zp_il1 (q := 10) dX9_appendNumber_9 rfl ?_
    refine zr_bipush (q := 12) dX9_appendNumber_10 rfl (z_in_of rfl) (by decide +kernel) ?_
    refine zr_idiv (q := 13) dX9_appendNumber_12 rfl (by omega) (by omega) ?_
    refine zr_iadd (q := 14) dX9_appendNumber_13 rfl (fun hA hB => by unfold z_in at hA hB ⊢; omega) ?_
    refine zr_i2c (q := 15) dX9_appendNumber_14 rfl ?_
    rw [show (48 + n / 10) % 65536 = 48 + n / 10 by omega]
    refine zf_callV1 (by first | assumption | exact k511 | exact k514) (s_X9_append ht h (by omega) (by omega)) mtX9_append wiX9_append weX9_append wlX9_19 (q := 18) dX9_appendNumber_15 rfl rfl rfl rfl rfl rfl rfl (fun r S9 M9 h8 hP => ?_) (fun k S9 M9 hP => (z_no hP.1 rfl).elim)
    obtain ⟨rfl, rfl, x1, x2⟩ := hP
    refine zr_pop (q := 19) dX9_appendNumber_18 rfl (Or.inl rfl) ?_
    refine zp_al0 (q := 20) dX9_appendNumber_19 rfl ?_
    refine zr_bipush (q := 22) dX9_appendNumber_20 rfl (z_in_of rfl) (by decide +kernel) ?_
    refine zp_il1 (q := 23) dX9_appendNumber_22 rfl ?_
    refine zr_bipush (q := 25) dX9_appendNumber_23 rfl (z_in_of rfl) (by decide +kernel) ?_
    refine zr_irem (q := 26) dX9_appendNumber_25 rfl (by omega) (by omega) ?_
    refine zr_iadd (q := 27) dX9_appendNumber_26 rfl (fun hA hB => by unfold z_in at hA hB ⊢; omega) ?_
    refine zr_i2c (q := 28) dX9_appendNumber_27 rfl ?_
    rw [show (48 + n % 10) % 65536 = 48 + n % 10 by omega]
    first
    | have sA := s_X9_append (x := 48 + n % 10) ht x1 (by rw [List.length_append]; show L.length + 1 < 60; omega) (by omega)
    | have sA := s_X9_append (x := 48 + n % 10) ht h (by omega) (by omega)
    refine zf_callV1 (by first | assumption | exact k511 | exact k514) (sA) mtX9_append wiX9_append weX9_append wlX9_19 (q := 31) dX9_appendNumber_28 rfl rfl rfl rfl rfl rfl rfl (fun r S9 M9 h8 hP => ?_) (fun k S9 M9 hP => (z_no hP.1 rfl).elim)
    obtain ⟨rfl, rfl, y1, y2⟩ := hP
    refine zr_pop (q := 32) dX9_appendNumber_31 rfl (Or.inl rfl) ?_
    refine zr_return dX9_appendNumber_32 rfl ?_
    first
    | (have t10 : 10 ≤ n := by omega
       have e : L ++ zDg n = L ++ [48 + n / 10] ++ [48 + n % 10] := by unfold zDg; rw [if_pos t10, List.append_assoc]; rfl
       exact ⟨rfl, rfl, by rw [e]; exact y1, fun z a b => (y2 z a b).trans (x2 z a b)⟩)
    | (have e : zDg n = [48 + n % 10] := by unfold zDg; rw [if_neg (by omega)]
       exact ⟨rfl, rfl, by rw [e]; exact y1, y2⟩)
/-- a ballot's line, its first k winds -/
def zTb (G : Int → Int) (b : Int) : Nat → List Int
  | 0 => zDg (G (20 + 7 * b)) ++ [58] ++ [32]
  | k + 1 => (if k = 0 then zTb G b k else zTb G b k ++ [62]) ++ zDg (G (20 + 7 * b + 2 + k))
def zTbk (G : Int → Int) (b k : Int) : List Int := zTb G b k.toNat
theorem zTbk_s {b k : Int} (h : 0 ≤ k) : zTbk G b (k + 1) = (if k = 0 then zTbk G b k else zTbk G b k ++ [62]) ++ zDg (G (20 + 7 * b + 2 + k)) := by
  unfold zTbk
  rw [show (k + 1).toNat = k.toNat + 1 by omega]
  show (if k.toNat = 0 then _ else _) ++ zDg (G (20 + 7 * b + 2 + ((k.toNat : Nat) : Int))) = _
  rw [show ((k.toNat : Nat) : Int) = k by omega]
  by_cases e : k = 0
  · rw [if_pos e, if_pos (by omega)]
  · rw [if_neg e, if_neg (by omega)]
theorem zTbk_len {b k : Int} (h : 0 ≤ k) : ((zTbk G b k).length : Int) ≤ 4 + 3 * k := by
  refine zU_ind (P := fun k => ((zTbk G b k).length : Int) ≤ 4 + 3 * k) h ?_ (fun k k0 _ ih => ?_)
  · show (((zDg (G (20 + 7 * b)) ++ [58] ++ [32]).length : Nat) : Int) ≤ 4 + 3 * 0
    rw [List.length_append, List.length_append]
    have := zDg_len (G (20 + 7 * b))
    show (((zDg (G (20 + 7 * b))).length + 1 + 1 : Nat) : Int) ≤ _
    omega
  · rw [zTbk_s k0, List.length_append]
    have := zDg_len (G (20 + 7 * b + 2 + k))
    split
    · omega
    · rw [List.length_append]
      show ((((zTbk G b k).length + 1 + (zDg (G (20 + 7 * b + 2 + k))).length : Nat)) : Int) ≤ _
      omega
/-- the line alone has changed -/
def zLi (M M' : zM) : Prop := ∀ z, z ≠ 511 → z ≠ 512 → M' z = M z
theorem s_X11_writeBallot_l (Hw : zHw M) (R : zAR M 2 G) (hG : zWF G) {b : Int} (hb : 0 ≤ b ∧ b < G 1) {bc bs : Nat} : ∀ (m : Nat) (k : Int) (M' : zM), 0 ≤ k → k ≤ G (20 + 7 * b + 1) → G (20 + 7 * b + 1) - k < m → zLi M M' → zTx M' 511 (zTbk G b k) →
    z_Ex mX11_writeBallot zF 46 [(1, 1), (0, b), (1, M (2 + 3) b), (0, k)] [] M' bc bs (fun r S' M' => r = (0, ((zTbk G b (G (20 + 7 * b + 1))).length : Int)) ∧ S' = zF ∧ zLi M M' ∧ zTx M' 511 (zTbk G b (G (20 + 7 * b + 1)))) := by
  have hn := hG.n
  have hl := R.h.bl hb.1 (show b < 20 by omega)
  have ob := zBl_0 as2 hl
  have o1 := zBl_1 as2 hl
  have hz := hG.sz hb.1 hb.2
  have hl2 := id hl
  unfold zBl at hl2
  have ht : zTt 511 := Or.inl rfl
  intro m
  induction m with
  | zero => intro k M' a1 a2 a3; omega
  | succ m ih =>
    intro k M' a1 a2 a3 hI hX
    have R' : zAR M' 2 G := R.of hG (fun z z0 z1 => hI z (by omega) (by omega))
    have e3 : M' (2 + 3) = M (2 + 3) := hI _ (by omega) (by omega)
    have Hw' : zHw M' := Hw.of (hI 1 (by decide) (by decide))
    have bn := R'.bn hb.1 hb.2
    have bj := R'.bj hb.1 hb.2
    have bp := R'.h.bp (b := M (2 + 3) b) hl
    rw [e3] at bn bj
    have hlen := zTbk_len (G := G) (b := b) a1
    have hs := zTbk_s (G := G) (b := b) a1
    refine zp_il3 (q := 47) dX11_writeBallot_46 rfl ?_
    refine zp_al2 (q := 48) dX11_writeBallot_47 rfl ?_
    refine zf_getG (v := G (20 + 7 * b + 1)) 1 (by assumption) (bn) rfl fdX11_120 (q := 51) dX11_writeBallot_48 rfl rfl ?_
    refine zr_icmp_ge (q := 87) (q2 := 54) dX11_writeBallot_51 (by decide) rfl (fun h51 => ?_) (fun h51 => ?_)
    · refine zp_al0 (q := 88) dX11_writeBallot_87 rfl ?_
      refine zf_getG (v := 511) 8 (k1) (Hw'.li) rfl fdX11_54 (q := 91) dX11_writeBallot_88 rfl rfl ?_
      refine zf_getG (v := (zTbk G b k).length) 1 (by first | assumption | exact k511 | exact k514) (hX.2.1) rfl fdX11_256 (q := 94) dX11_writeBallot_91 rfl rfl ?_
      refine zr_ireturn dX11_writeBallot_94 rfl (z_fit_i _) ?_
      have e : k = G (20 + 7 * b + 1) := by omega
      subst e
      exact ⟨rfl, rfl, hI, hX⟩
    · have hk := hG.rk hb.1 hb.2 k a1 (by omega)
      have hg := hG.w
      refine zp_il3 (q := 55) dX11_writeBallot_54 rfl ?_
      refine zr_if_le (q := 68) (q2 := 58) dX11_writeBallot_55 (by decide) rfl (fun h55 => ?_) (fun h55 => ?_)
      · refine zp_al0 (q := 69) dX11_writeBallot_68 rfl ?_
        refine zf_getG (v := 511) 8 (k1) (by first | exact Hw9.li | exact Hw'.li) rfl fdX11_54 (q := 72) dX11_writeBallot_69 rfl rfl ?_
        refine zp_al2 (q := 73) dX11_writeBallot_72 rfl ?_
        refine zf_getG (v := M (2 + 3) b + 1) 2 (by assumption) (by first | (rw [x2 _ (by omega) (by omega)]; exact bp) | exact bp) rfl fdX11_141 (q := 76) dX11_writeBallot_73 rfl rfl ?_
        refine zp_il3 (q := 77) dX11_writeBallot_76 rfl ?_
        refine zf_iald (v := G (20 + 7 * b + 2 + k)) (by first | assumption | exact k518 | exact k519 | exact k520 | exact k521 | exact k522 | exact k523 | exact k524 | exact k525 | exact k526 | exact k527 | exact k528 | exact k510 | exact k512 | exact k515 | exact k516 | exact k507 | exact k509 | exact k135 | exact k489 | exact k529 | exact k530) (by first | (rw [x2 _ (by omega) (by omega)]; exact bj k a1 (by omega)) | exact bj k a1 (by omega)) (q := 78) dX11_writeBallot_77 rfl (by omega) (by omega) ?_
        first
        | have sA := s_X9_appendNumber (n := G (20 + 7 * b + 2 + k)) ht x1 (by omega) (by omega)
        | have sA := s_X9_appendNumber (n := G (20 + 7 * b + 2 + k)) ht hX (by omega) (by omega)
        refine zf_callV1 (by first | assumption | exact k511 | exact k514) (sA) mtX9_appendNumber wiX9_appendNumber weX9_appendNumber wlX11_249 (q := 81) dX11_writeBallot_78 rfl rfl rfl rfl rfl rfl rfl (fun r S9 M9 h8 hP => ?_) (fun k S9 M9 hP => (z_no hP.1 rfl).elim)
        obtain ⟨rfl, rfl, y1, y2⟩ := hP
        refine zp_inc3 (q := 84) dX11_writeBallot_81 rfl rfl rfl (fun hA => by unfold z_in at hA ⊢; omega) ?_
        refine zr_goto (q := 46) dX11_writeBallot_84 (by decide) ?_
        first
        | (have t0 : k = 0 := by omega
           rw [if_pos t0] at hs
           exact ih (k + 1) M9 (by omega) (by omega) (by omega) (fun z a b => (y2 z a b).trans (hI z a b)) (by rw [hs]; exact y1))
        | (rw [if_neg (by omega)] at hs
           exact ih (k + 1) M9 (by omega) (by omega) (by omega) (fun z a b => (y2 z a b).trans ((x2 z a b).trans (hI z a b))) (by rw [hs]; exact y1))
      · refine zp_al0 (q := 59) dX11_writeBallot_58 rfl ?_
        refine zf_getG (v := 511) 8 (k1) (Hw'.li) rfl fdX11_54 (q := 62) dX11_writeBallot_59 rfl rfl ?_
        refine zr_bipush (q := 64) dX11_writeBallot_62 rfl (z_in_of rfl) (by decide +kernel) ?_
        refine zf_callV1 (by first | assumption | exact k511 | exact k514) (s_X9_append ht hX (by omega) (by omega)) mtX9_append wiX9_append weX9_append wlX11_252 (q := 67) dX11_writeBallot_64 rfl rfl rfl rfl rfl rfl rfl (fun r S9 M9 h8 hP => ?_) (fun k S9 M9 hP => (z_no hP.1 rfl).elim)
        obtain ⟨rfl, rfl, x1, x2⟩ := hP
        have Hw9 := Hw'.of (x2 1 (by decide) (by decide))
        have hlA : (zTbk G b k ++ [62]).length = (zTbk G b k).length + 1 := by rw [List.length_append]; rfl
        refine zr_pop (q := 68) dX11_writeBallot_67 rfl (Or.inl rfl) ?_
        refine zp_al0 (q := 69) dX11_writeBallot_68 rfl ?_
        refine zf_getG (v := 511) 8 (k1) (by first | exact Hw9.li | exact Hw'.li) rfl fdX11_54 (q := 72) dX11_writeBallot_69 rfl rfl ?_
        refine zp_al2 (q := 73) dX11_writeBallot_72 rfl ?_
        refine zf_getG (v := M (2 + 3) b + 1) 2 (by assumption) (by first | (rw [x2 _ (by omega) (by omega)]; exact bp) | exact bp) rfl fdX11_141 (q := 76) dX11_writeBallot_73 rfl rfl ?_
        refine zp_il3 (q := 77) dX11_writeBallot_76 rfl ?_
        refine zf_iald (v := G (20 + 7 * b + 2 + k)) (by first | assumption | exact k518 | exact k519 | exact k520 | exact k521 | exact k522 | exact k523 | exact k524 | exact k525 | exact k526 | exact k527 | exact k528 | exact k510 | exact k512 | exact k515 | exact k516 | exact k507 | exact k509 | exact k135 | exact k489 | exact k529 | exact k530) (by first | (rw [x2 _ (by omega) (by omega)]; exact bj k a1 (by omega)) | exact bj k a1 (by omega)) (q := 78) dX11_writeBallot_77 rfl (by omega) (by omega) ?_
        first
        | have sA := s_X9_appendNumber (n := G (20 + 7 * b + 2 + k)) ht x1 (by omega) (by omega)
        | have sA := s_X9_appendNumber (n := G (20 + 7 * b + 2 + k)) ht hX (by omega) (by omega)
        refine zf_callV1 (by first | assumption | exact k511 | exact k514) (sA) mtX9_appendNumber wiX9_appendNumber weX9_appendNumber wlX11_249 (q := 81) dX11_writeBallot_78 rfl rfl rfl rfl rfl rfl rfl (fun r S9 M9 h8 hP => ?_) (fun k S9 M9 hP => (z_no hP.1 rfl).elim)
        obtain ⟨rfl, rfl, y1, y2⟩ := hP
        refine zp_inc3 (q := 84) dX11_writeBallot_81 rfl rfl rfl (fun hA => by unfold z_in at hA ⊢; omega) ?_
        refine zr_goto (q := 46) dX11_writeBallot_84 (by decide) ?_
        first
        | (have t0 : k = 0 := by omega
           rw [if_pos t0] at hs
           exact ih (k + 1) M9 (by omega) (by omega) (by omega) (fun z a b => (y2 z a b).trans (hI z a b)) (by rw [hs]; exact y1))
        | (rw [if_neg (by omega)] at hs
           exact ih (k + 1) M9 (by omega) (by omega) (by omega) (fun z a b => (y2 z a b).trans ((x2 z a b).trans (hI z a b))) (by rw [hs]; exact y1))
theorem s_X11_writeBallot (Hw : zHw M) (R : zAR M 2 G) (hG : zWF G) (h0 : M 511 0 = 512) {b : Int} (hb : 0 ≤ b ∧ b < G 1) : z_Call mX11_writeBallot zF [(1, 1), (0, b)] M (fun r S' M' => r = (0, ((zTbk G b (G (20 + 7 * b + 1))).length : Int)) ∧ S' = zF ∧ zLi M M' ∧ zTx M' 511 (zTbk G b (G (20 + 7 * b + 1)))) := by
  have hn := hG.n
  have hl := R.h.bl hb.1 (show b < 20 by omega)
  have ob := zBl_0 as2 hl
  have hz := hG.sz hb.1 hb.2
  have hwt := hG.wt hb.1 hb.2
  have hl2 := id hl
  unfold zBl at hl2
  have ht : zTt 511 := Or.inl rfl
  refine z_enter (k := 2) rfl rfl rfl ?_
  refine zp_al0 (q := 1) dX11_writeBallot_0 rfl ?_
  refine zp_il1 (q := 2) dX11_writeBallot_1 rfl ?_
  refine zf_callV1 (k1) (s_X11_ballotNumbered Hw R hG hb) mtX11_ballotNumbered wiX11_ballotNumbered weX11_ballotNumbered wlX11_116 (q := 5) dX11_writeBallot_2 rfl rfl rfl rfl rfl rfl rfl (fun r S9 M9 h8 hP => ?_) (fun k S9 M9 hP => (z_no hP.1 rfl).elim)
  obtain ⟨rfl, rfl, h9⟩ := hP
  subst M9
  refine zp_as2 (q := 6) dX11_writeBallot_5 rfl rfl rfl ?_
  refine zp_al0 (q := 7) dX11_writeBallot_6 rfl ?_
  refine zf_getG (v := 511) 8 (k1) (Hw.li) rfl fdX11_54 (q := 10) dX11_writeBallot_7 rfl rfl ?_
  refine zf_callV0 (by first | assumption | exact k511 | exact k514) (s_X9_clear ht h0) mtX9_clear wiX9_clear weX9_clear wlX11_246 (q := 13) dX11_writeBallot_10 rfl rfl rfl rfl rfl rfl rfl (fun r S9 M9 h8 hP => ?_) (fun k S9 M9 hP => (z_no hP.1 rfl).elim)
  obtain ⟨rfl, rfl, x1, x2⟩ := hP
  have Hw1 := Hw.of (x2 1 (by decide) (by decide))
  have c1 : ∀ z, z ≠ 511 → z ≠ 512 → M9 z = M z := x2
  refine zp_al0 (q := 14) dX11_writeBallot_13 rfl ?_
  refine zf_getG (v := 511) 8 (k1) (Hw1.li) rfl fdX11_54 (q := 17) dX11_writeBallot_14 rfl rfl ?_
  refine zp_al2 (q := 18) dX11_writeBallot_17 rfl ?_
  refine zf_getG (v := G (20 + 7 * b)) 0 (by assumption) (by rw [c1 _ (by omega) (by omega)]; exact R.bw hb.1 hb.2) rfl fdX11_125 (q := 21) dX11_writeBallot_18 rfl rfl ?_
  refine zf_callV1 (by first | assumption | exact k511 | exact k514) (s_X9_appendNumber ht x1 (by decide) (by omega)) mtX9_appendNumber wiX9_appendNumber weX9_appendNumber wlX11_249 (q := 24) dX11_writeBallot_21 rfl rfl rfl rfl rfl rfl rfl (fun r S9 M9 h8 hP => ?_) (fun k S9 M9 hP => (z_no hP.1 rfl).elim)
  obtain ⟨rfl, rfl, y1, y2⟩ := hP
  have Hw2 := Hw1.of (y2 1 (by decide) (by decide))
  have c2 : ∀ z, z ≠ 511 → z ≠ 512 → M9 z = M z := fun z a b => (y2 z a b).trans (c1 z a b)
  rw [List.nil_append] at y1
  have hd := zDg_len (G (20 + 7 * b))
  refine zp_al0 (q := 25) dX11_writeBallot_24 rfl ?_
  refine zf_getG (v := 511) 8 (k1) (Hw2.li) rfl fdX11_54 (q := 28) dX11_writeBallot_25 rfl rfl ?_
  refine zr_bipush (q := 30) dX11_writeBallot_28 rfl (z_in_of rfl) (by decide +kernel) ?_
  refine zf_callV1 (by first | assumption | exact k511 | exact k514) (s_X9_append ht y1 (by omega) (by omega)) mtX9_append wiX9_append weX9_append wlX11_252 (q := 33) dX11_writeBallot_30 rfl rfl rfl rfl rfl rfl rfl (fun r S9 M9 h8 hP => ?_) (fun k S9 M9 hP => (z_no hP.1 rfl).elim)
  obtain ⟨rfl, rfl, z1, z2⟩ := hP
  have Hw3 := Hw2.of (z2 1 (by decide) (by decide))
  have c3 : ∀ z, z ≠ 511 → z ≠ 512 → M9 z = M z := fun z a b => (z2 z a b).trans (c2 z a b)
  refine zr_pop (q := 34) dX11_writeBallot_33 rfl (Or.inl rfl) ?_
  refine zp_al0 (q := 35) dX11_writeBallot_34 rfl ?_
  refine zf_getG (v := 511) 8 (k1) (Hw3.li) rfl fdX11_54 (q := 38) dX11_writeBallot_35 rfl rfl ?_
  refine zr_bipush (q := 40) dX11_writeBallot_38 rfl (z_in_of rfl) (by decide +kernel) ?_
  refine zf_callV1 (by first | assumption | exact k511 | exact k514) (s_X9_append ht z1 (by rw [List.length_append]; show _ + 1 < 60; omega) (by omega)) mtX9_append wiX9_append weX9_append wlX11_252 (q := 43) dX11_writeBallot_40 rfl rfl rfl rfl rfl rfl rfl (fun r S9 M9 h8 hP => ?_) (fun k S9 M9 hP => (z_no hP.1 rfl).elim)
  obtain ⟨rfl, rfl, u1, u2⟩ := hP
  refine zr_pop (q := 44) dX11_writeBallot_43 rfl (Or.inl rfl) ?_
  refine zr_iconst (q := 45) dX11_writeBallot_44 rfl (z_in_of rfl) ?_
  refine zp_is3 (q := 46) dX11_writeBallot_45 rfl rfl rfl ?_
  exact s_X11_writeBallot_l Hw R hG hb 6 0 M9 (by omega) (by omega) (by omega) (fun z a b => (u2 z a b).trans (c3 z a b)) u1
theorem s_X11_writeBallot_x (Hw : zHw M) (R : zAR M 2 G) (hG : zWF G) {b : Int} (hb : ¬ (0 ≤ b ∧ b < G 1)) : z_Call mX11_writeBallot zF [(1, 1), (0, b)] M (zpF 8 0 M) := by
  refine z_enter (k := 2) rfl rfl rfl ?_
  refine zp_al0 (q := 1) dX11_writeBallot_0 rfl ?_
  refine zp_il1 (q := 2) dX11_writeBallot_1 rfl ?_
  refine zf_callV1 (k1) (s_X11_ballotNumbered_x Hw R hG hb) mtX11_ballotNumbered wiX11_ballotNumbered weX11_ballotNumbered wlX11_116 (q := 5) dX11_writeBallot_2 rfl rfl rfl rfl rfl rfl rfl (fun r S9 M9 h8 hP => absurd (congrArg Prod.fst hP.1) h8) (fun k S9 M9 hP => ?_)
  obtain ⟨h8, rfl, h9⟩ := hP
  subst M9
  cases h8
  exact ⟨rfl, rfl, rfl⟩
/-- the line of a count, its first k rounds -/
def zTc (G : Int → Int) : Nat → List Int
  | 0 => []
  | k + 1 => zTc G k ++ zDg (if zEl (zVr G k) (zP G k) = -1 then zWn (zVr G k) else zEl (zVr G k) (zP G k)) ++ [if zEl (zVr G k) (zP G k) = -1 then 33 else if zTi (zVr G k) = 1 then 42 else 45]
def zTck (G : Int → Int) (k : Int) : List Int := zTc G k.toNat
theorem zTck_s {k : Int} (h : 0 ≤ k) : zTck G (k + 1) = zTck G k ++ zDg (if zEl (zVr G k) (zP G k) = -1 then zWn (zVr G k) else zEl (zVr G k) (zP G k)) ++ [if zEl (zVr G k) (zP G k) = -1 then 33 else if zTi (zVr G k) = 1 then 42 else 45] := by
  unfold zTck
  rw [show (k + 1).toNat = k.toNat + 1 by omega]
  show zTc G k.toNat ++ zDg (if zEl (zVr G ((k.toNat : Nat) : Int)) (zP G ((k.toNat : Nat) : Int)) = -1 then _ else _) ++ _ = _
  rw [show ((k.toNat : Nat) : Int) = k by omega]
theorem zTck_len {k : Int} (h : 0 ≤ k) : ((zTck G k).length : Int) ≤ 3 * k := by
  refine zU_ind (P := fun k => ((zTck G k).length : Int) ≤ 3 * k) h (by show ((([] : List Int).length : Nat) : Int) ≤ 3 * 0; decide) (fun k k0 _ ih => ?_)
  rw [zTck_s k0, List.length_append, List.length_append]
  have := zDg_len (if zEl (zVr G k) (zP G k) = -1 then zWn (zVr G k) else zEl (zVr G k) (zP G k))
  show ((((zTck G k).length + (zDg (if zEl (zVr G k) (zP G k) = -1 then zWn (zVr G k) else zEl (zVr G k) (zP G k))).length + 1 : Nat)) : Int) ≤ _
  omega
theorem s_X11_writeRound (Hw : zHw M) (hG : zWF G) (hs : 1 ≤ zSt G) {i : Int} (hi : 0 ≤ i ∧ i < zRn G) (hr : zRk1 M (490 + 2 * i) G i) (hX : zTx M 511 (zTck G i)) : z_Call mX11_writeRound zF [(1, 1), (1, 490 + 2 * i)] M (fun r S' M' => r = (9, 0) ∧ S' = zF ∧ zTx M' 511 (zTck G (i + 1)) ∧ zLi M M') := by
  have h8 := zRn_le hG
  have hro := ro490 (k := i) hi.1 (by omega)
  have ro := zRo_0 hro
  have ht : zTt 511 := Or.inl rfl
  have hlen := zTck_len (G := G) hi.1
  have hel := zEl_in hG hs hi.1 hi.2
  have hsp := zRn_spec hG hs
  have e := zTck_s (G := G) hi.1
  have hti := zTi_01 (zVr G i)
  refine z_enter (k := 0) rfl rfl rfl ?_
  refine zp_al1 (q := 1) dX11_writeRound_0 rfl ?_
  refine zf_getG (v := zEl (zVr G i) (zP G i)) 3 (ro) (hr.2.2.2.1) rfl fdX11_182 (q := 4) dX11_writeRound_1 rfl rfl ?_
  refine zr_iconst (q := 5) dX11_writeRound_4 rfl (z_in_of rfl) ?_
  refine zr_icmp_ne (q := 32) (q2 := 8) dX11_writeRound_5 (by decide) rfl (fun h5 => ?_) (fun h5 => ?_)
  · have c1 : zEl (zVr G i) (zP G i) ≠ -1 := by omega
    have c4 : zWn (zVr G i) = -1 := hsp.2.2.2.1 i hi.1 (by have := fun c => c1 (hel.mpr c); omega)
    obtain ⟨w, w0, w1, w2⟩ := (zA_alive hG hs hi.1 (by omega) (fun j j0 j1 => hsp.2.2.2.1 j j0 (by have := fun c => c1 (hel.mpr c); omega))).2
    have c3 := zEl_ex (V := zVr G i) (s := zP G i) w0 w1 (fun e => by rw [(zVo_ne hG _ w).mp e] at w2; cases w2) c4 (zP_range hG hi.1).1
    rw [if_neg c1, if_neg c1] at e
    have hd := zDg_len (zEl (zVr G i) (zP G i))
    refine zp_al0 (q := 33) dX11_writeRound_32 rfl ?_
    refine zf_getG (v := 511) 8 (k1) (Hw.li) rfl fdX11_54 (q := 36) dX11_writeRound_33 rfl rfl ?_
    refine zp_al1 (q := 37) dX11_writeRound_36 rfl ?_
    refine zf_getG (v := zEl (zVr G i) (zP G i)) 3 (ro) (hr.2.2.2.1) rfl fdX11_182 (q := 40) dX11_writeRound_37 rfl rfl ?_
    refine zf_callV1 (by first | assumption | exact k511 | exact k514) (s_X9_appendNumber ht hX (by omega) (by omega)) mtX9_appendNumber wiX9_appendNumber weX9_appendNumber wlX11_249 (q := 43) dX11_writeRound_40 rfl rfl rfl rfl rfl rfl rfl (fun r S9 M9 h8 hP => ?_) (fun k S9 M9 hP => (z_no hP.1 rfl).elim)
    obtain ⟨rfl, rfl, x1, x2⟩ := hP
    have Hw1 := Hw.of (x2 1 (by decide) (by decide))
    refine zp_al0 (q := 44) dX11_writeRound_43 rfl ?_
    refine zf_getG (v := 511) 8 (k1) (Hw1.li) rfl fdX11_54 (q := 47) dX11_writeRound_44 rfl rfl ?_
    refine zp_al1 (q := 48) dX11_writeRound_47 rfl ?_
    refine zf_getG (v := zTi (zVr G i)) 4 (ro) (by rw [x2 _ (by omega) (by omega)]; exact hr.2.2.2.2) rfl fdX11_185 (q := 51) dX11_writeRound_48 rfl rfl ?_
    refine zr_if_eq (q := 59) (q2 := 54) dX11_writeRound_51 (by decide) rfl (fun h51 => ?_) (fun h51 => ?_)
    · refine zr_bipush (q := 61) dX11_writeRound_59 rfl (z_in_of rfl) (by decide +kernel) ?_
      refine zf_callV1 (by first | assumption | exact k511 | exact k514) (s_X9_append ht x1 (by rw [List.length_append]; omega) (by omega)) mtX9_append wiX9_append weX9_append wlX11_252 (q := 64) dX11_writeRound_61 rfl rfl rfl rfl rfl rfl rfl (fun r S9 M9 h8 hP => ?_) (fun k S9 M9 hP => (z_no hP.1 rfl).elim)
      obtain ⟨rfl, rfl, y1, y2⟩ := hP
      refine zr_pop (q := 65) dX11_writeRound_64 rfl (Or.inl rfl) ?_
      refine zr_return dX11_writeRound_65 rfl ?_
      first
      | (have t1 : zTi (zVr G i) = 1 := by omega
         rw [if_pos t1] at e
         exact ⟨rfl, rfl, by rw [e]; exact y1, fun z a b => (y2 z a b).trans (x2 z a b)⟩)
      | (have t1 : ¬ zTi (zVr G i) = 1 := by omega
         rw [if_neg t1] at e
         exact ⟨rfl, rfl, by rw [e]; exact y1, fun z a b => (y2 z a b).trans (x2 z a b)⟩)
      | exact ⟨rfl, rfl, by rw [e]; exact y1, fun z a b => (y2 z a b).trans (x2 z a b)⟩
    · refine zr_bipush (q := 56) dX11_writeRound_54 rfl (z_in_of rfl) (by decide +kernel) ?_
      refine zr_goto (q := 61) dX11_writeRound_56 (by decide) ?_
      refine zf_callV1 (by first | assumption | exact k511 | exact k514) (s_X9_append ht x1 (by rw [List.length_append]; omega) (by omega)) mtX9_append wiX9_append weX9_append wlX11_252 (q := 64) dX11_writeRound_61 rfl rfl rfl rfl rfl rfl rfl (fun r S9 M9 h8 hP => ?_) (fun k S9 M9 hP => (z_no hP.1 rfl).elim)
      obtain ⟨rfl, rfl, y1, y2⟩ := hP
      refine zr_pop (q := 65) dX11_writeRound_64 rfl (Or.inl rfl) ?_
      refine zr_return dX11_writeRound_65 rfl ?_
      first
      | (have t1 : zTi (zVr G i) = 1 := by omega
         rw [if_pos t1] at e
         exact ⟨rfl, rfl, by rw [e]; exact y1, fun z a b => (y2 z a b).trans (x2 z a b)⟩)
      | (have t1 : ¬ zTi (zVr G i) = 1 := by omega
         rw [if_neg t1] at e
         exact ⟨rfl, rfl, by rw [e]; exact y1, fun z a b => (y2 z a b).trans (x2 z a b)⟩)
      | exact ⟨rfl, rfl, by rw [e]; exact y1, fun z a b => (y2 z a b).trans (x2 z a b)⟩
  · have c1 : zEl (zVr G i) (zP G i) = -1 := by omega
    have c2 : zWn (zVr G i) ≠ -1 := by rw [hel.mp c1]; exact hsp.2.2.2.2
    have c3 := zWn_range c2
    rw [if_pos c1, if_pos c1] at e
    have hd := zDg_len (zWn (zVr G i))
    refine zp_al0 (q := 9) dX11_writeRound_8 rfl ?_
    refine zf_getG (v := 511) 8 (k1) (Hw.li) rfl fdX11_54 (q := 12) dX11_writeRound_9 rfl rfl ?_
    refine zp_al1 (q := 13) dX11_writeRound_12 rfl ?_
    refine zf_getG (v := zWn (zVr G i)) 2 (ro) (hr.2.2.1) rfl fdX11_375 (q := 16) dX11_writeRound_13 rfl rfl ?_
    refine zf_callV1 (by first | assumption | exact k511 | exact k514) (s_X9_appendNumber ht hX (by omega) (by omega)) mtX9_appendNumber wiX9_appendNumber weX9_appendNumber wlX11_249 (q := 19) dX11_writeRound_16 rfl rfl rfl rfl rfl rfl rfl (fun r S9 M9 h8 hP => ?_) (fun k S9 M9 hP => (z_no hP.1 rfl).elim)
    obtain ⟨rfl, rfl, x1, x2⟩ := hP
    have Hw1 := Hw.of (x2 1 (by decide) (by decide))
    refine zp_al0 (q := 20) dX11_writeRound_19 rfl ?_
    refine zf_getG (v := 511) 8 (k1) (Hw1.li) rfl fdX11_54 (q := 23) dX11_writeRound_20 rfl rfl ?_
    refine zr_bipush (q := 25) dX11_writeRound_23 rfl (z_in_of rfl) (by decide +kernel) ?_
    refine zf_callV1 (by first | assumption | exact k511 | exact k514) (s_X9_append ht x1 (by rw [List.length_append]; omega) (by omega)) mtX9_append wiX9_append weX9_append wlX11_252 (q := 28) dX11_writeRound_25 rfl rfl rfl rfl rfl rfl rfl (fun r S9 M9 h8 hP => ?_) (fun k S9 M9 hP => (z_no hP.1 rfl).elim)
    obtain ⟨rfl, rfl, y1, y2⟩ := hP
    refine zr_pop (q := 29) dX11_writeRound_28 rfl (Or.inl rfl) ?_
    refine zr_goto (q := 65) dX11_writeRound_29 (by decide) ?_
    refine zr_return dX11_writeRound_65 rfl ?_
    first
    | (have t1 : zTi (zVr G i) = 1 := by omega
       rw [if_pos t1] at e
       exact ⟨rfl, rfl, by rw [e]; exact y1, fun z a b => (y2 z a b).trans (x2 z a b)⟩)
    | (have t1 : ¬ zTi (zVr G i) = 1 := by omega
       rw [if_neg t1] at e
       exact ⟨rfl, rfl, by rw [e]; exact y1, fun z a b => (y2 z a b).trans (x2 z a b)⟩)
    | exact ⟨rfl, rfl, by rw [e]; exact y1, fun z a b => (y2 z a b).trans (x2 z a b)⟩
theorem s_X11_writeCount_l (Hw : zHw M) (hG : zWF G) (Hc : zHc M) (hn : M 488 1 = zRn G) (hr : ∀ i, 0 ≤ i → i < zRn G → zRk1 M (490 + 2 * i) G i) {bc bs : Nat} {Q : zV → zS → zM → Prop} (hQ : ∀ M', zLi M M' → zTx M' 511 (zTck G (zRn G)) → Q (0, ((zTck G (zRn G)).length : Int)) zF M') : ∀ (m : Nat) (k : Int) (M' : zM), 0 ≤ k → k ≤ zRn G → zRn G - k < m → zLi M M' → zTx M' 511 (zTck G k) →
    z_Ex mX11_writeCount zF 20 [(1, 1), (0, k)] [] M' bc bs Q := by
  have h8 := zRn_le hG
  have hst := zSt_range hG
  intro m
  induction m with
  | zero => intro k M' a1 a2 a3; omega
  | succ m ih =>
    intro k M' a1 a2 a3 hI hX
    have Hw' : zHw M' := Hw.of (hI 1 (by decide) (by decide))
    refine zp_il1 (q := 21) dX11_writeCount_20 rfl ?_
    refine zp_al0 (q := 22) dX11_writeCount_21 rfl ?_
    refine zf_getG (v := 488) 5 (k1) (Hw'.co) rfl fdX11_36 (q := 25) dX11_writeCount_22 rfl rfl ?_
    refine zf_getG (v := zRn G) 1 (k488) (by rw [hI 488 (by decide) (by decide)]; exact hn) rfl fdX11_163 (q := 28) dX11_writeCount_25 rfl rfl ?_
    refine zr_icmp_ge (q := 50) (q2 := 31) dX11_writeCount_28 (by decide) rfl (fun h28 => ?_) (fun h28 => ?_)
    · refine zp_al0 (q := 51) dX11_writeCount_50 rfl ?_
      refine zf_getG (v := 511) 8 (k1) (Hw'.li) rfl fdX11_54 (q := 54) dX11_writeCount_51 rfl rfl ?_
      refine zf_getG (v := (zTck G k).length) 1 (by first | assumption | exact k511 | exact k514) (hX.2.1) rfl fdX11_256 (q := 57) dX11_writeCount_54 rfl rfl ?_
      refine zr_ireturn dX11_writeCount_57 rfl (z_fit_i _) ?_
      have e : k = zRn G := by omega
      subst e
      exact hQ M' hI hX
    · have hs : 1 ≤ zSt G := by
        apply Classical.byContradiction
        intro c
        have := zRn_0 (show zSt G = 0 by omega)
        omega
      refine zp_al0 (q := 32) dX11_writeCount_31 rfl ?_
      refine zp_al0 (q := 33) dX11_writeCount_32 rfl ?_
      refine zf_getG (v := 488) 5 (k1) (Hw'.co) rfl fdX11_36 (q := 36) dX11_writeCount_33 rfl rfl ?_
      refine zf_getG (v := 489) 0 (k488) (by rw [hI 488 (by decide) (by decide)]; exact Hc.1) rfl fdX11_193 (q := 39) dX11_writeCount_36 rfl rfl ?_
      refine zp_il1 (q := 40) dX11_writeCount_39 rfl ?_
      refine zf_aald (v := 490 + 2 * k) (by first | assumption | exact k518 | exact k519 | exact k520 | exact k521 | exact k522 | exact k523 | exact k524 | exact k525 | exact k526 | exact k527 | exact k528 | exact k510 | exact k512 | exact k515 | exact k516 | exact k507 | exact k509 | exact k135 | exact k489 | exact k529 | exact k530) (by rw [hI 489 (by decide) (by decide)]; exact (Hc.2 k (by omega) (by omega)).1) (by decide) (q := 41) dX11_writeCount_40 rfl (by omega) (by omega) ?_
      refine zf_callV1 (k1) (s_X11_writeRound Hw' hG hs ⟨a1, by omega⟩ (by have h9 := hr k a1 (by omega); unfold zRk1 at h9 ⊢; rw [hI _ (by omega) (by omega), hI _ (by omega) (by omega)]; exact h9) hX) mtX11_writeRound wiX11_writeRound weX11_writeRound wlX11_259 (q := 44) dX11_writeCount_41 rfl rfl rfl rfl rfl rfl rfl (fun r S9 M9 h8 hP => ?_) (fun k S9 M9 hP => (z_no hP.1 rfl).elim)
      obtain ⟨rfl, rfl, x1, x2⟩ := hP
      refine zp_inc1 (q := 47) dX11_writeCount_44 rfl rfl rfl (fun hA => by unfold z_in at hA ⊢; omega) ?_
      refine zr_goto (q := 20) dX11_writeCount_47 (by decide) ?_
      exact ih (k + 1) M9 (by omega) (by omega) (by omega) (fun z a b => (x2 z a b).trans (hI z a b)) x1
theorem s_X11_writeCount (Hw : zHw M) (R : zAR M 2 G) (hG : zWF G) (Hc : zHc M) (Hp : zHp M) (h0 : M 511 0 = 512) : z_Call mX11_writeCount zF [(1, 1)] M (fun r S' M' => r = (0, ((zTck G (zRn G)).length : Int)) ∧ S' = zF ∧ (∀ z, z < 488 ∨ 509 < z → z ≠ 511 → z ≠ 512 → M' z = M z) ∧ zHc M' ∧ zHp M' ∧ zTx M' 511 (zTck G (zRn G))) := by
  have h8 := zRn_le hG
  have ht : zTt 511 := Or.inl rfl
  refine z_enter (k := 1) rfl rfl rfl ?_
  refine zp_al0 (q := 1) dX11_writeCount_0 rfl ?_
  refine zf_getG (v := 488) 5 (k1) (Hw.co) rfl fdX11_36 (q := 4) dX11_writeCount_1 rfl rfl ?_
  refine zp_al0 (q := 5) dX11_writeCount_4 rfl ?_
  refine zf_getG (v := 2) 0 (k1) (Hw.as) rfl fdX11_10 (q := 8) dX11_writeCount_5 rfl rfl ?_
  refine zf_callV1 (k488) (s_X3_take as2 R hG Hc) mtX3_take wiX3_take weX3_take wlX11_153 (q := 11) dX11_writeCount_8 rfl rfl rfl rfl rfl rfl rfl (fun r S9 M9 h8 hP => ?_) (fun k S9 M9 hP => (z_no hP.1 rfl).elim)
  obtain ⟨rfl, rfl, hT⟩ := hP
  have HW := hT.hw Hw
  have hK := hT.k Hp
  have ex : ∃ M1, M1 = M9 := ⟨M9, rfl⟩
  obtain ⟨M1, e1⟩ := ex
  rw [← e1] at hT HW hK ⊢
  clear e1 M9
  refine zp_al0 (q := 12) dX11_writeCount_11 rfl ?_
  refine zf_getG (v := 511) 8 (k1) (HW.li) rfl fdX11_54 (q := 15) dX11_writeCount_12 rfl rfl ?_
  refine zf_callV0 (by first | assumption | exact k511 | exact k514) (s_X9_clear ht (by rw [hK.1 511 (by omega)]; exact h0)) mtX9_clear wiX9_clear weX9_clear wlX11_246 (q := 18) dX11_writeCount_15 rfl rfl rfl rfl rfl rfl rfl (fun r S9 M9 h8 hP => ?_) (fun k S9 M9 hP => (z_no hP.1 rfl).elim)
  obtain ⟨rfl, rfl, x1, x2⟩ := hP
  have ex : ∃ M2, M2 = M9 := ⟨M9, rfl⟩
  obtain ⟨M2, e2⟩ := ex
  rw [← e2] at x1 x2 ⊢
  clear e2 M9
  have hI : ∀ z, z ≠ 511 → z ≠ 512 → M2 z = M1 z := x2
  refine zr_iconst (q := 19) dX11_writeCount_18 rfl (z_in_of rfl) ?_
  refine zp_is1 (q := 20) dX11_writeCount_19 rfl rfl rfl ?_
  exact s_X11_writeCount_l (HW.of (hI 1 (by decide) (by decide))) hG (hT.2.1.of (fun z a b => hI z (by omega) (by omega))) (by rw [hI 488 (by decide) (by decide)]; exact hT.n) (fun i a b => by have h9 := hT.r hG a b; unfold zRk1 at h9 ⊢; rw [hI _ (by omega) (by omega), hI _ (by omega) (by omega)]; exact h9) (fun M' hJ hX => ⟨rfl, rfl, fun z a b c => (hJ z b c).trans ((hI z b c).trans (hK.1 z a)), hK.2.1.of (fun z a b => (hJ z (by omega) (by omega)).trans (hI z (by omega) (by omega))), hK.2.2.of (fun z a b => (hJ z (by omega) (by omega)).trans (hI z (by omega) (by omega))), hX⟩) 9 0 M2 (by omega) (by omega) (by omega) (fun _ _ _ => rfl) x1
theorem s_X11_type (Hw : zHw M) (hT : M 513 0 = 514) (hX : zTx M 514 L) {x : Int} (hx : 32 ≤ x ∧ x ≤ 126) (hl : L.length < 60) : z_Call mX11_type zF [(1, 1), (0, x)] M (fun r S' M' => r = (0, (L.length : Int) + 1) ∧ S' = zF ∧ zTx M' 514 (L ++ [x]) ∧ ∀ z, z ≠ 514 → z ≠ 515 → M' z = M z) := by
  have ht : zTt 514 := Or.inr rfl
  refine z_enter (k := 0) rfl rfl rfl ?_
  refine zp_il1 (q := 1) dX11_type_0 rfl ?_
  refine zr_bipush (q := 3) dX11_type_1 rfl (z_in_of rfl) (by decide +kernel) ?_
  refine zr_icmp_lt (q := 12) (q2 := 6) dX11_type_3 (by decide) rfl (fun h3 => ?_) (fun h3 => ?_)
  · exact absurd hx (by omega)
  · refine zp_il1 (q := 7) dX11_type_6 rfl ?_
    refine zr_bipush (q := 9) dX11_type_7 rfl (z_in_of rfl) (by decide +kernel) ?_
    refine zr_icmp_le (q := 23) (q2 := 12) dX11_type_9 (by decide) rfl (fun h9 => ?_) (fun h9 => ?_)
    · refine zp_al0 (q := 24) dX11_type_23 rfl ?_
      refine zf_getG (v := 513) 9 (k1) (Hw.re) rfl fdX11_61 (q := 27) dX11_type_24 rfl rfl ?_
      refine zf_getG (v := 514) 0 (k513) (hT) rfl fdX11_285 (q := 30) dX11_type_27 rfl rfl ?_
      refine zp_il1 (q := 31) dX11_type_30 rfl ?_
      refine zf_callV1 (by first | assumption | exact k511 | exact k514) (s_X9_append ht hX hl (by omega)) mtX9_append wiX9_append weX9_append wlX11_252 (q := 34) dX11_type_31 rfl rfl rfl rfl rfl rfl rfl (fun r S9 M9 h8 hP => ?_) (fun k S9 M9 hP => (z_no hP.1 rfl).elim)
      obtain ⟨rfl, rfl, x1, x2⟩ := hP
      refine zr_if_ne (q := 48) (q2 := 37) dX11_type_34 (by decide) rfl (fun h34 => ?_) (fun h34 => ?_)
      · refine zp_al0 (q := 49) dX11_type_48 rfl ?_
        refine zf_getG (v := 513) 9 (k1) ((Hw.of (x2 1 (by decide) (by decide))).re) rfl fdX11_61 (q := 52) dX11_type_49 rfl rfl ?_
        refine zf_getG (v := 514) 0 (k513) (by rw [x2 513 (by decide) (by decide)]; exact hT) rfl fdX11_285 (q := 55) dX11_type_52 rfl rfl ?_
        refine zf_getG (v := (L.length : Int) + 1) 1 (by first | assumption | exact k511 | exact k514) (by rw [x1.2.1, List.length_append]; rfl) rfl fdX11_256 (q := 58) dX11_type_55 rfl rfl ?_
        refine zr_ireturn dX11_type_58 rfl (z_fit_i _) ?_
        exact ⟨rfl, rfl, x1, x2⟩
      · exact absurd (by decide) h34
    · exact absurd hx (by omega)
theorem s_X11_type_x {x : Int} (hx : ¬ (32 ≤ x ∧ x ≤ 126)) : z_Call mX11_type zF [(1, 1), (0, x)] M (zpF 8 1 M) := by
  refine z_enter (k := 0) rfl rfl rfl ?_
  refine zp_il1 (q := 1) dX11_type_0 rfl ?_
  refine zr_bipush (q := 3) dX11_type_1 rfl (z_in_of rfl) (by decide +kernel) ?_
  refine zr_icmp_lt (q := 12) (q2 := 6) dX11_type_3 (by decide) rfl (fun h3 => ?_) (fun h3 => ?_)
  · refine zr_throwSW (i := 16) th_1 rfl (by decide) rfl rfl dX11_type_12 dX11_type_15 dX11_type_16 dX11_type_19 dX11_type_22 (by decide) rfl (by decide) (by decide) (by decide) ?_
    exact ⟨rfl, rfl, rfl⟩
  · refine zp_il1 (q := 7) dX11_type_6 rfl ?_
    refine zr_bipush (q := 9) dX11_type_7 rfl (z_in_of rfl) (by decide +kernel) ?_
    refine zr_icmp_le (q := 23) (q2 := 12) dX11_type_9 (by decide) rfl (fun h9 => ?_) (fun h9 => ?_)
    · exact absurd (show 32 ≤ x ∧ x ≤ 126 by omega) hx
    · refine zr_throwSW (i := 16) th_1 rfl (by decide) rfl rfl dX11_type_12 dX11_type_15 dX11_type_16 dX11_type_19 dX11_type_22 (by decide) rfl (by decide) (by decide) (by decide) ?_
      exact ⟨rfl, rfl, rfl⟩
theorem s_X11_type_y (Hw : zHw M) (hT : M 513 0 = 514) (hX : zTx M 514 L) {x : Int} (hx : 32 ≤ x ∧ x ≤ 126) (hl : ¬ L.length < 60) : z_Call mX11_type zF [(1, 1), (0, x)] M (zpF 8 2 M) := by
  have ht : zTt 514 := Or.inr rfl
  refine z_enter (k := 0) rfl rfl rfl ?_
  refine zp_il1 (q := 1) dX11_type_0 rfl ?_
  refine zr_bipush (q := 3) dX11_type_1 rfl (z_in_of rfl) (by decide +kernel) ?_
  refine zr_icmp_lt (q := 12) (q2 := 6) dX11_type_3 (by decide) rfl (fun h3 => ?_) (fun h3 => ?_)
  · exact absurd hx (by omega)
  · refine zp_il1 (q := 7) dX11_type_6 rfl ?_
    refine zr_bipush (q := 9) dX11_type_7 rfl (z_in_of rfl) (by decide +kernel) ?_
    refine zr_icmp_le (q := 23) (q2 := 12) dX11_type_9 (by decide) rfl (fun h9 => ?_) (fun h9 => ?_)
    · refine zp_al0 (q := 24) dX11_type_23 rfl ?_
      refine zf_getG (v := 513) 9 (k1) (Hw.re) rfl fdX11_61 (q := 27) dX11_type_24 rfl rfl ?_
      refine zf_getG (v := 514) 0 (k513) (hT) rfl fdX11_285 (q := 30) dX11_type_27 rfl rfl ?_
      refine zp_il1 (q := 31) dX11_type_30 rfl ?_
      refine zf_callV1 (by first | assumption | exact k511 | exact k514) (s_X9_append_x ht hX hl) mtX9_append wiX9_append weX9_append wlX11_252 (q := 34) dX11_type_31 rfl rfl rfl rfl rfl rfl rfl (fun r S9 M9 h8 hP => ?_) (fun k S9 M9 hP => (z_no hP.1 rfl).elim)
      obtain ⟨rfl, rfl, h9⟩ := hP
      subst M9
      refine zr_if_ne (q := 48) (q2 := 37) dX11_type_34 (by decide) rfl (fun h34 => ?_) (fun h34 => ?_)
      · exact absurd rfl h34
      · refine zr_throwSW (i := 17) th_2 rfl (by decide) rfl rfl dX11_type_37 dX11_type_40 dX11_type_41 dX11_type_44 dX11_type_47 (by decide) rfl (by decide) (by decide) (by decide) ?_
        exact ⟨rfl, rfl, rfl⟩
    · exact absurd hx (by omega)
end ZTX
