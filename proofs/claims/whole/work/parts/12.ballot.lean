/-! ===== WindElection$Ballot ===== -/
/-- the first place of w in the row r, from k on, below n; -1: none -/
def zFind (f : Int → Int) (w : Int) : Nat → Int → Int → Int
  | 0, _, _ => -1
  | m + 1, k, n => if k < n then (if f k = w then k else zFind f w m (k + 1) n) else -1
theorem zFind_stop (f : Int → Int) (w : Int) (m : Nat) {k n : Int} (h : ¬ k < n) : zFind f w m k n = -1 := by
  cases m with
  | zero => rfl
  | succ m => unfold zFind; rw [if_neg h]
/-- what a ballot is, at r, in an assembly at a -/
theorem s_X2_placeOf_l {a b w n : Int} {M : zM} (ha : zAs a) (hb : zBl a b) (hw : M b 2 = b + 1) (hn : M b 1 = n) (hn5 : n ≤ 5) {bc bs : Nat} : ∀ (m : Nat) (k : Int), 0 ≤ k → n - k < m →
    z_Ex mX2_placeOf zF 2 [(1, b), (0, w), (0, k)] [] M bc bs (zpF 0 (zFind (M (b + 1)) w m k n) M) := by
  have o0 := zBl_0 ha hb
  have o1 := zBl_1 ha hb
  intro m
  induction m with
  | zero =>
    intro k hk hm
    refine zp_il2 (q := 3) dX2_placeOf_2 rfl ?_
    refine zp_al0 (q := 4) dX2_placeOf_3 rfl ?_
    refine zf_getf (v := n) (by assumption) (hn) fdX2_19 (q := 7) dX2_placeOf_4 rfl rfl ?_
    refine zr_icmp_ge (q := 28) (q2 := 10) dX2_placeOf_7 (by decide) rfl (fun h7 => ?_) (fun h7 => ?_)
    · refine zr_iconst (q := 29) dX2_placeOf_28 rfl (z_in_of rfl) ?_
      refine zr_ireturn dX2_placeOf_29 rfl (z_fit_i _) ?_
      exact ⟨rfl, rfl, rfl⟩
    · exact absurd h7 (by omega)
  | succ m ih =>
    intro k hk hm
    refine zp_il2 (q := 3) dX2_placeOf_2 rfl ?_
    refine zp_al0 (q := 4) dX2_placeOf_3 rfl ?_
    refine zf_getf (v := n) (by assumption) (hn) fdX2_19 (q := 7) dX2_placeOf_4 rfl rfl ?_
    refine zr_icmp_ge (q := 28) (q2 := 10) dX2_placeOf_7 (by decide) rfl (fun h7 => ?_) (fun h7 => ?_)
    · refine zr_iconst (q := 29) dX2_placeOf_28 rfl (z_in_of rfl) ?_
      refine zr_ireturn dX2_placeOf_29 rfl (z_fit_i _) ?_
      exact ⟨by rw [zFind_stop _ _ _ (by omega)], rfl, rfl⟩
    · refine zp_al0 (q := 11) dX2_placeOf_10 rfl ?_
      refine zf_getf (v := b + 1) (by assumption) (hw) fdX2_9 (q := 14) dX2_placeOf_11 rfl rfl ?_
      refine zp_il2 (q := 15) dX2_placeOf_14 rfl ?_
      refine zf_iald (v := _) (by assumption) (rfl) (q := 16) dX2_placeOf_15 rfl (by omega) (by omega) ?_
      refine zp_il1 (q := 17) dX2_placeOf_16 rfl ?_
      refine zr_icmp_ne (q := 22) (q2 := 20) dX2_placeOf_17 (by decide) rfl (fun h17 => ?_) (fun h17 => ?_)
      · refine zp_inc2 (q := 25) dX2_placeOf_22 rfl rfl rfl (fun hA => by unfold z_in at hA ⊢; omega) ?_
        refine zr_goto (q := 2) dX2_placeOf_25 (by decide) ?_
        have e := ih (k + 1) (by omega) (by omega)
        unfold zFind
        rw [if_pos (by omega), if_neg h17]
        exact e
      · refine zp_il2 (q := 21) dX2_placeOf_20 rfl ?_
        refine zr_ireturn dX2_placeOf_21 rfl (z_fit_i _) ?_
        exact ⟨by unfold zFind; rw [if_pos (by omega), if_pos (by omega)], rfl, rfl⟩
theorem s_X2_placeOf {a b w n : Int} {M : zM} (ha : zAs a) (hb : zBl a b) (hw : M b 2 = b + 1) (hn : M b 1 = n) (hn5 : n ≤ 5) : z_Call mX2_placeOf zF [(1, b), (0, w)] M (zpF 0 (zFind (M (b + 1)) w 6 0 n) M) := by
  refine z_enter (k := 1) rfl rfl rfl ?_
  refine zr_iconst (q := 1) dX2_placeOf_0 rfl (z_in_of rfl) ?_
  refine zp_is2 (q := 2) dX2_placeOf_1 rfl rfl rfl ?_
  exact s_X2_placeOf_l ha hb hw hn hn5 6 0 (by omega) (by omega)
