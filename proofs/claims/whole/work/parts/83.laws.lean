/-! dep: 80 81 82 -/
/-! ===== printed by gen/specs/gen83.py: the law's wrappers ===== -/
section ZWP
variable {Y : zY} {pc q : Nat} {ls st : List zV} {M : zM} {bc bs : Nat} {Q : zV → zS → zM → Prop}
theorem zp_callVH0 {Y' : zY} {P : zV → zS → zM → Prop} {idx : Nat} (hc : z_Call Y' zF ((1, 1) :: []) M P) (hY : z_Mth Y' 0) (hi : Cond.instanceMethod Y'.1 ∈ z_all) (hsel : Cond.selects Y'.1.cls Y'.1 Y'.1 ∈ z_all) (hl9 : Cond.methodLink Y.1.cls idx Y'.1 ∈ z_all) (hd : decode Y.2.1 pc = .ok (.invokevirtual idx, 3)) (hq : pc + 3 = q)
    (hrm : (Nat.ble (Y'.2.2.2.2.1.1 + 1) Y.2.2.2.2.1.1 && Nat.ble (8 + (Y'.2.2.1 + 11) + Y'.2.2.2.2.1.2) Y.2.2.2.2.1.2) = true) (hcls : Y'.1.cls = "WindElection") (hst : z_one st = true) (hsl : Nat.ble st.length 8 = true) (hmc : (Nat.ble Y'.2.2.2.2.2.1 bc && Nat.ble Y'.2.2.2.2.2.2.1 bs) = true)
    (kn : ∀ r S' M', r.1 ≠ 8 → P r S' M' → z_Ex Y S' q ls (z_ps r st) M' (bc - Y'.2.2.2.2.2.1) (bs - Y'.2.2.2.2.2.2.1) Q)
    (kx : ∀ k S' M', P (8, k) S' M' → ∃ i q, z_Hd Y pc ls k i q ∧ z_Ex Y S' q (ls.set i (9, 0)) [] M' (bc - Y'.2.2.2.2.2.1) (bs - Y'.2.2.2.2.2.2.1) Q) : z_Ex Y zF pc ls ((1, 1) :: st) M bc bs Q := by
  simp only [Bool.and_eq_true] at hrm hmc
  exact zr_callVH (as := []) (z := 1) (c := 8) hc hY hi hsel hl9 hd hq rfl ⟨Nat.le_of_ble_eq_true hrm.1, Nat.le_of_ble_eq_true hrm.2⟩ k1.1 k1.2.1 k1.2.2 (by decide) (by rw [hcls]; rfl) hst (Nat.le_of_ble_eq_true hsl) (Nat.le_of_ble_eq_true hmc.1) (Nat.le_of_ble_eq_true hmc.2) kn kx
theorem zp_callVH1 {Y' : zY} {P : zV → zS → zM → Prop} {b0 : zV} {idx : Nat} (hc : z_Call Y' zF ((1, 1) :: [b0]) M P) (hY : z_Mth Y' 1) (hi : Cond.instanceMethod Y'.1 ∈ z_all) (hsel : Cond.selects Y'.1.cls Y'.1 Y'.1 ∈ z_all) (hl9 : Cond.methodLink Y.1.cls idx Y'.1 ∈ z_all) (hd : decode Y.2.1 pc = .ok (.invokevirtual idx, 3)) (hq : pc + 3 = q)
    (hrm : (Nat.ble (Y'.2.2.2.2.1.1 + 1) Y.2.2.2.2.1.1 && Nat.ble (8 + (Y'.2.2.1 + 11) + Y'.2.2.2.2.1.2) Y.2.2.2.2.1.2) = true) (hcls : Y'.1.cls = "WindElection") (hst : z_one st = true) (hsl : Nat.ble st.length 8 = true) (hmc : (Nat.ble Y'.2.2.2.2.2.1 bc && Nat.ble Y'.2.2.2.2.2.2.1 bs) = true)
    (kn : ∀ r S' M', r.1 ≠ 8 → P r S' M' → z_Ex Y S' q ls (z_ps r st) M' (bc - Y'.2.2.2.2.2.1) (bs - Y'.2.2.2.2.2.2.1) Q)
    (kx : ∀ k S' M', P (8, k) S' M' → ∃ i q, z_Hd Y pc ls k i q ∧ z_Ex Y S' q (ls.set i (9, 0)) [] M' (bc - Y'.2.2.2.2.2.1) (bs - Y'.2.2.2.2.2.2.1) Q) : z_Ex Y zF pc ls (b0 :: (1, 1) :: st) M bc bs Q := by
  simp only [Bool.and_eq_true] at hrm hmc
  exact zr_callVH (as := [b0]) (z := 1) (c := 8) hc hY hi hsel hl9 hd hq rfl ⟨Nat.le_of_ble_eq_true hrm.1, Nat.le_of_ble_eq_true hrm.2⟩ k1.1 k1.2.1 k1.2.2 (by decide) (by rw [hcls]; rfl) hst (Nat.le_of_ble_eq_true hsl) (Nat.le_of_ble_eq_true hmc.1) (Nat.le_of_ble_eq_true hmc.2) kn kx
theorem zp_callVH2 {Y' : zY} {P : zV → zS → zM → Prop} {b0 b1 : zV} {idx : Nat} (hc : z_Call Y' zF ((1, 1) :: [b0, b1]) M P) (hY : z_Mth Y' 2) (hi : Cond.instanceMethod Y'.1 ∈ z_all) (hsel : Cond.selects Y'.1.cls Y'.1 Y'.1 ∈ z_all) (hl9 : Cond.methodLink Y.1.cls idx Y'.1 ∈ z_all) (hd : decode Y.2.1 pc = .ok (.invokevirtual idx, 3)) (hq : pc + 3 = q)
    (hrm : (Nat.ble (Y'.2.2.2.2.1.1 + 1) Y.2.2.2.2.1.1 && Nat.ble (8 + (Y'.2.2.1 + 11) + Y'.2.2.2.2.1.2) Y.2.2.2.2.1.2) = true) (hcls : Y'.1.cls = "WindElection") (hst : z_one st = true) (hsl : Nat.ble st.length 8 = true) (hmc : (Nat.ble Y'.2.2.2.2.2.1 bc && Nat.ble Y'.2.2.2.2.2.2.1 bs) = true)
    (kn : ∀ r S' M', r.1 ≠ 8 → P r S' M' → z_Ex Y S' q ls (z_ps r st) M' (bc - Y'.2.2.2.2.2.1) (bs - Y'.2.2.2.2.2.2.1) Q)
    (kx : ∀ k S' M', P (8, k) S' M' → ∃ i q, z_Hd Y pc ls k i q ∧ z_Ex Y S' q (ls.set i (9, 0)) [] M' (bc - Y'.2.2.2.2.2.1) (bs - Y'.2.2.2.2.2.2.1) Q) : z_Ex Y zF pc ls (b1 :: b0 :: (1, 1) :: st) M bc bs Q := by
  simp only [Bool.and_eq_true] at hrm hmc
  exact zr_callVH (as := [b0, b1]) (z := 1) (c := 8) hc hY hi hsel hl9 hd hq rfl ⟨Nat.le_of_ble_eq_true hrm.1, Nat.le_of_ble_eq_true hrm.2⟩ k1.1 k1.2.1 k1.2.2 (by decide) (by rw [hcls]; rfl) hst (Nat.le_of_ble_eq_true hsl) (Nat.le_of_ble_eq_true hmc.1) (Nat.le_of_ble_eq_true hmc.2) kn kx
end ZWP
def mL_addWind : zY := (yL_addWind, cL_addWind, 3, (some .int), (9, 405), (1, 6, [(0, 8, 11, 13)], fun _ _ => True))
theorem hyL_addWind : Cond.codeWith mL_addWind.1 mL_addWind.2.1 mL_addWind.2.2.1 mL_addWind.2.2.2.1 mL_addWind.2.2.2.2.2.2.2.1 ∈ z_all := z_all_in (i := 667) (by decide +kernel) (by decide +kernel)
theorem hsL_addWind : Cond.static mL_addWind.1 ∈ z_all := z_all_in (i := 666) (by decide +kernel) (by decide +kernel)
theorem hiL_addWind : Cond.initialized mL_addWind.1.cls ∈ z_all := z_all_in (i := 47) (by decide +kernel) (by decide +kernel)
theorem hpL_addWind : mL_addWind.1.cls ≠ "java/lang/invoke/MethodHandle" ∧ mL_addWind.1.cls ≠ "java/lang/invoke/VarHandle" ∧ (parseMethodDescriptor mL_addWind.1.desc).map (fun d => d.parameters.length) = some 2 := by decide +kernel
theorem wlL_7 : Cond.methodLink "WindElectionLaw" 7 mX11_addWind.1 ∈ z_all := z_all_in (i := 669) (by decide +kernel) (by decide +kernel)
theorem w_addWind {M : zM} {P : zV → zS → zM → Prop} (hc : z_Call mX11_addWind zF [(1, 1)] M P) (hP : ∀ r S' M', P r S' M' → S' = zF ∧ ((∃ v, r = (0, v)) ∨ r = (8, 2))) : z_CallH mL_addWind zF [(1, 1), (1, 529)] M (fun r S' M' => S' = zF ∧ ∃ r1 M1, P r1 zF M1 ∧ ((∃ v, r1 = (0, v) ∧ r = (0, 0) ∧ M' = z_up M1 529 0 v) ∨ (r1 = (8, 2) ∧ r = (0, 1) ∧ M' = M1))) := by
  refine z_enterH (k := 1) rfl rfl rfl ?_
  refine zp_al1 (q := 1) dL_addWind_0 rfl ?_
  refine zr_iconst (q := 2) dL_addWind_1 rfl (z_in_of rfl) ?_
  refine zp_al0 (q := 3) dL_addWind_2 rfl ?_
  refine zp_callVH0 hc mtX11_addWind wiX11_addWind weX11_addWind wlL_7 (q := 6) dL_addWind_3 rfl rfl rfl rfl rfl rfl (fun r S9 M9 h8 hP9 => ?_) (fun k S9 M9 hP9 => ?_)
  · obtain ⟨rfl, hh⟩ := hP _ _ _ hP9
    obtain ⟨v, rfl⟩ : ∃ v, r = (0, v) := by
      rcases hh with h | rfl
      · exact h
      · exact absurd rfl h8
    refine zr_i2l (q := 7) dL_addWind_6 rfl ?_
    refine zr_last (z := 529) (n := 1) (q := 8) dL_addWind_7 rfl k529.1 k529.2.1 k529.2.2 (by decide) (by decide) rfl ?_
    refine zr_goto (q := 14) dL_addWind_8 (by decide) ?_
    refine zr_iconst (q := 15) dL_addWind_14 rfl (z_in_of rfl) ?_
    refine zr_ireturn dL_addWind_15 rfl (z_fit_i _) ?_
    exact ⟨rfl, _, _, hP9, Or.inl ⟨v, rfl, rfl, rfl⟩⟩
  · obtain ⟨rfl, hh⟩ := hP _ _ _ hP9
    rcases hh with h | hv
    · obtain ⟨v, hv⟩ := h
      exact (z_no hv rfl).elim
    · have hk := congrArg Prod.snd hv
      dsimp only at hk
      subst hk
      refine ⟨2, 12, ⟨[], [], (0, 8, 11, 13), rfl, (fun z hz => by cases hz), by decide, by decide, z_cl13, (z_hdx (k := 2) (by decide)).1, (z_hdx (k := 2) (by decide)).2, Or.inr ⟨2, dL_addWind_11, rfl, rfl⟩, by decide, rfl⟩, ?_⟩
      refine zr_iconst (q := 13) dL_addWind_12 rfl (z_in_of rfl) ?_
      refine zr_ireturn dL_addWind_13 rfl (z_fit_i _) ?_
      exact ⟨rfl, _, _, hP9, Or.inr ⟨rfl, rfl, rfl⟩⟩
def mL_withdraw : zY := (yL_withdraw, cL_withdraw, 4, (some .int), (9, 406), (1, 6, [(0, 9, 12, 19), (0, 9, 15, 13)], fun _ _ => True))
theorem hyL_withdraw : Cond.codeWith mL_withdraw.1 mL_withdraw.2.1 mL_withdraw.2.2.1 mL_withdraw.2.2.2.1 mL_withdraw.2.2.2.2.2.2.2.1 ∈ z_all := z_all_in (i := 681) (by decide +kernel) (by decide +kernel)
theorem hsL_withdraw : Cond.static mL_withdraw.1 ∈ z_all := z_all_in (i := 680) (by decide +kernel) (by decide +kernel)
theorem hiL_withdraw : Cond.initialized mL_withdraw.1.cls ∈ z_all := z_all_in (i := 47) (by decide +kernel) (by decide +kernel)
theorem hpL_withdraw : mL_withdraw.1.cls ≠ "java/lang/invoke/MethodHandle" ∧ mL_withdraw.1.cls ≠ "java/lang/invoke/VarHandle" ∧ (parseMethodDescriptor mL_withdraw.1.desc).map (fun d => d.parameters.length) = some 3 := by decide +kernel
theorem wlL_15 : Cond.methodLink "WindElectionLaw" 15 mX11_withdraw.1 ∈ z_all := z_all_in (i := 703) (by decide +kernel) (by decide +kernel)
theorem w_withdraw {M : zM} {P : zV → zS → zM → Prop} {p0 : Int} (hc : z_Call mX11_withdraw zF [(1, 1), (0, p0)] M P) (hP : ∀ r S' M', P r S' M' → S' = zF ∧ ((∃ v, r = (0, v)) ∨ r = (8, 0) ∨ r = (8, 2))) : z_CallH mL_withdraw zF [(1, 1), (0, p0), (1, 529)] M (fun r S' M' => S' = zF ∧ ∃ r1 M1, P r1 zF M1 ∧ ((∃ v, r1 = (0, v) ∧ r = (0, 0) ∧ M' = z_up M1 529 0 v) ∨ (r1 = (8, 0) ∧ r = (0, 1) ∧ M' = M1) ∨ (r1 = (8, 2) ∧ r = (0, 2) ∧ M' = M1))) := by
  refine z_enterH (k := 1) rfl rfl rfl ?_
  refine zp_al2 (q := 1) dL_withdraw_0 rfl ?_
  refine zr_iconst (q := 2) dL_withdraw_1 rfl (z_in_of rfl) ?_
  refine zp_al0 (q := 3) dL_withdraw_2 rfl ?_
  refine zp_il1 (q := 4) dL_withdraw_3 rfl ?_
  refine zp_callVH1 hc mtX11_withdraw wiX11_withdraw weX11_withdraw wlL_15 (q := 7) dL_withdraw_4 rfl rfl rfl rfl rfl rfl (fun r S9 M9 h8 hP9 => ?_) (fun k S9 M9 hP9 => ?_)
  · obtain ⟨rfl, hh⟩ := hP _ _ _ hP9
    obtain ⟨v, rfl⟩ : ∃ v, r = (0, v) := by
      rcases hh with h | rfl | rfl
      · exact h
      · exact absurd rfl h8
      · exact absurd rfl h8
    refine zr_i2l (q := 8) dL_withdraw_7 rfl ?_
    refine zr_last (z := 529) (n := 1) (q := 9) dL_withdraw_8 rfl k529.1 k529.2.1 k529.2.2 (by decide) (by decide) rfl ?_
    refine zr_goto (q := 18) dL_withdraw_9 (by decide) ?_
    refine zr_iconst (q := 19) dL_withdraw_18 rfl (z_in_of rfl) ?_
    refine zr_ireturn dL_withdraw_19 rfl (z_fit_i _) ?_
    exact ⟨rfl, _, _, hP9, Or.inl ⟨v, rfl, rfl, rfl⟩⟩
  · obtain ⟨rfl, hh⟩ := hP _ _ _ hP9
    rcases hh with h | hv | hv
    · obtain ⟨v, hv⟩ := h
      exact (z_no hv rfl).elim
    · have hk := congrArg Prod.snd hv
      dsimp only at hk
      subst hk
      refine ⟨3, 13, ⟨[], [(0, 9, 15, 13)], (0, 9, 12, 19), rfl, (fun z hz => by cases hz), by decide, by decide, z_cl19, (z_hdx (k := 0) (by decide)).1, (z_hdx (k := 0) (by decide)).2, Or.inr ⟨3, dL_withdraw_12, rfl, rfl⟩, by decide, rfl⟩, ?_⟩
      refine zr_iconst (q := 14) dL_withdraw_13 rfl (z_in_of rfl) ?_
      refine zr_ireturn dL_withdraw_14 rfl (z_fit_i _) ?_
      exact ⟨rfl, _, _, hP9, Or.inr (Or.inl ⟨rfl, rfl, rfl⟩)⟩
    · have hk := congrArg Prod.snd hv
      dsimp only at hk
      subst hk
      refine ⟨3, 16, ⟨[(0, 9, 12, 19)], [], (0, 9, 15, 13), rfl, (fun z hz => by
            simp only [List.mem_cons, List.not_mem_nil, or_false] at hz
            rcases hz with rfl
            · exact ⟨by decide, _, (z_hdx (k := 0) (by decide)).2, by decide, z_cl19⟩), by decide, by decide, z_cl13, (z_hdx (k := 2) (by decide)).1, (z_hdx (k := 2) (by decide)).2, Or.inr ⟨3, dL_withdraw_15, rfl, rfl⟩, by decide, rfl⟩, ?_⟩
      refine zr_iconst (q := 17) dL_withdraw_16 rfl (z_in_of rfl) ?_
      refine zr_ireturn dL_withdraw_17 rfl (z_fit_i _) ?_
      exact ⟨rfl, _, _, hP9, Or.inr (Or.inr (⟨rfl, rfl, rfl⟩))⟩
def mL_isStanding : zY := (yL_isStanding, cL_isStanding, 4, (some .int), (8, 132), (1, 6, [(0, 16, 19, 19)], fun _ _ => True))
theorem hyL_isStanding : Cond.codeWith mL_isStanding.1 mL_isStanding.2.1 mL_isStanding.2.2.1 mL_isStanding.2.2.2.1 mL_isStanding.2.2.2.2.2.2.2.1 ∈ z_all := z_all_in (i := 718) (by decide +kernel) (by decide +kernel)
theorem hsL_isStanding : Cond.static mL_isStanding.1 ∈ z_all := z_all_in (i := 717) (by decide +kernel) (by decide +kernel)
theorem hiL_isStanding : Cond.initialized mL_isStanding.1.cls ∈ z_all := z_all_in (i := 47) (by decide +kernel) (by decide +kernel)
theorem hpL_isStanding : mL_isStanding.1.cls ≠ "java/lang/invoke/MethodHandle" ∧ mL_isStanding.1.cls ≠ "java/lang/invoke/VarHandle" ∧ (parseMethodDescriptor mL_isStanding.1.desc).map (fun d => d.parameters.length) = some 3 := by decide +kernel
theorem wlL_21 : Cond.methodLink "WindElectionLaw" 21 mX11_isStanding.1 ∈ z_all := z_all_in (i := 719) (by decide +kernel) (by decide +kernel)
theorem w_isStanding {M : zM} {P : zV → zS → zM → Prop} {p0 : Int} (hc : z_Call mX11_isStanding zF [(1, 1), (0, p0)] M P) (hP : ∀ r S' M', P r S' M' → S' = zF ∧ ((∃ v, r = (0, v) ∧ (v = 0 ∨ v = 1)) ∨ r = (8, 0))) : z_CallH mL_isStanding zF [(1, 1), (0, p0), (1, 529)] M (fun r S' M' => S' = zF ∧ ∃ r1 M1, P r1 zF M1 ∧ ((∃ v, r1 = (0, v) ∧ r = (0, 0) ∧ M' = z_up M1 529 0 v) ∨ (r1 = (8, 0) ∧ r = (0, 1) ∧ M' = M1))) := by
  refine z_enterH (k := 1) rfl rfl rfl ?_
  refine zp_al2 (q := 1) dL_isStanding_0 rfl ?_
  refine zr_iconst (q := 2) dL_isStanding_1 rfl (z_in_of rfl) ?_
  refine zp_al0 (q := 3) dL_isStanding_2 rfl ?_
  refine zp_il1 (q := 4) dL_isStanding_3 rfl ?_
  refine zp_callVH1 hc mtX11_isStanding wiX11_isStanding weX11_isStanding wlL_21 (q := 7) dL_isStanding_4 rfl rfl rfl rfl rfl rfl (fun r S9 M9 h8 hP9 => ?_) (fun k S9 M9 hP9 => ?_)
  · obtain ⟨rfl, hh⟩ := hP _ _ _ hP9
    obtain ⟨v, rfl, hv⟩ : ∃ v, r = (0, v) ∧ (v = 0 ∨ v = 1) := by
      rcases hh with h | rfl
      · exact h
      · exact absurd rfl h8
    refine zr_if_eq (q := 14) (q2 := 10) dL_isStanding_7 (by decide) rfl (fun h9 => ?_) (fun h9 => ?_)
    · refine zr_lconst (v := 0) (q := 15) dL_isStanding_14 rfl (z_in_of rfl) rfl ?_
      refine zr_last (z := 529) (n := 1) (q := 16) dL_isStanding_15 rfl k529.1 k529.2.1 k529.2.2 (by decide) (by decide) rfl ?_
      refine zr_goto (q := 22) dL_isStanding_16 (by decide) ?_
      refine zr_iconst (q := 23) dL_isStanding_22 rfl (z_in_of rfl) ?_
      refine zr_ireturn dL_isStanding_23 rfl (z_fit_i _) ?_
      exact ⟨rfl, _, _, hP9, Or.inl ⟨0, by rw [h9], rfl, rfl⟩⟩
    · refine zr_lconst (v := 1) (q := 11) dL_isStanding_10 rfl (z_in_of rfl) rfl ?_
      refine zr_goto (q := 15) dL_isStanding_11 (by decide) ?_
      refine zr_last (z := 529) (n := 1) (q := 16) dL_isStanding_15 rfl k529.1 k529.2.1 k529.2.2 (by decide) (by decide) rfl ?_
      refine zr_goto (q := 22) dL_isStanding_16 (by decide) ?_
      refine zr_iconst (q := 23) dL_isStanding_22 rfl (z_in_of rfl) ?_
      refine zr_ireturn dL_isStanding_23 rfl (z_fit_i _) ?_
      exact ⟨rfl, _, _, hP9, Or.inl ⟨1, by rw [hv.resolve_left h9], rfl, rfl⟩⟩
  · obtain ⟨rfl, hh⟩ := hP _ _ _ hP9
    rcases hh with h | hv
    · obtain ⟨v, hv, _⟩ := h
      exact (z_no hv rfl).elim
    · have hk := congrArg Prod.snd hv
      dsimp only at hk
      subst hk
      refine ⟨3, 20, ⟨[], [], (0, 16, 19, 19), rfl, (fun z hz => by cases hz), by decide, by decide, z_cl19, (z_hdx (k := 0) (by decide)).1, (z_hdx (k := 0) (by decide)).2, Or.inr ⟨3, dL_isStanding_19, rfl, rfl⟩, by decide, rfl⟩, ?_⟩
      refine zr_iconst (q := 21) dL_isStanding_20 rfl (z_in_of rfl) ?_
      refine zr_ireturn dL_isStanding_21 rfl (z_fit_i _) ?_
      exact ⟨rfl, _, _, hP9, Or.inr ⟨rfl, rfl, rfl⟩⟩
def mL_hasSeat : zY := (yL_hasSeat, cL_hasSeat, 4, (some .int), (8, 132), (1, 6, [(0, 16, 19, 19)], fun _ _ => True))
theorem hyL_hasSeat : Cond.codeWith mL_hasSeat.1 mL_hasSeat.2.1 mL_hasSeat.2.2.1 mL_hasSeat.2.2.2.1 mL_hasSeat.2.2.2.2.2.2.2.1 ∈ z_all := z_all_in (i := 730) (by decide +kernel) (by decide +kernel)
theorem hsL_hasSeat : Cond.static mL_hasSeat.1 ∈ z_all := z_all_in (i := 729) (by decide +kernel) (by decide +kernel)
theorem hiL_hasSeat : Cond.initialized mL_hasSeat.1.cls ∈ z_all := z_all_in (i := 47) (by decide +kernel) (by decide +kernel)
theorem hpL_hasSeat : mL_hasSeat.1.cls ≠ "java/lang/invoke/MethodHandle" ∧ mL_hasSeat.1.cls ≠ "java/lang/invoke/VarHandle" ∧ (parseMethodDescriptor mL_hasSeat.1.desc).map (fun d => d.parameters.length) = some 3 := by decide +kernel
theorem wlL_25 : Cond.methodLink "WindElectionLaw" 25 mX11_hasSeat.1 ∈ z_all := z_all_in (i := 731) (by decide +kernel) (by decide +kernel)
theorem w_hasSeat {M : zM} {P : zV → zS → zM → Prop} {p0 : Int} (hc : z_Call mX11_hasSeat zF [(1, 1), (0, p0)] M P) (hP : ∀ r S' M', P r S' M' → S' = zF ∧ ((∃ v, r = (0, v) ∧ (v = 0 ∨ v = 1)) ∨ r = (8, 0))) : z_CallH mL_hasSeat zF [(1, 1), (0, p0), (1, 529)] M (fun r S' M' => S' = zF ∧ ∃ r1 M1, P r1 zF M1 ∧ ((∃ v, r1 = (0, v) ∧ r = (0, 0) ∧ M' = z_up M1 529 0 v) ∨ (r1 = (8, 0) ∧ r = (0, 1) ∧ M' = M1))) := by
  refine z_enterH (k := 1) rfl rfl rfl ?_
  refine zp_al2 (q := 1) dL_hasSeat_0 rfl ?_
  refine zr_iconst (q := 2) dL_hasSeat_1 rfl (z_in_of rfl) ?_
  refine zp_al0 (q := 3) dL_hasSeat_2 rfl ?_
  refine zp_il1 (q := 4) dL_hasSeat_3 rfl ?_
  refine zp_callVH1 hc mtX11_hasSeat wiX11_hasSeat weX11_hasSeat wlL_25 (q := 7) dL_hasSeat_4 rfl rfl rfl rfl rfl rfl (fun r S9 M9 h8 hP9 => ?_) (fun k S9 M9 hP9 => ?_)
  · obtain ⟨rfl, hh⟩ := hP _ _ _ hP9
    obtain ⟨v, rfl, hv⟩ : ∃ v, r = (0, v) ∧ (v = 0 ∨ v = 1) := by
      rcases hh with h | rfl
      · exact h
      · exact absurd rfl h8
    refine zr_if_eq (q := 14) (q2 := 10) dL_hasSeat_7 (by decide) rfl (fun h9 => ?_) (fun h9 => ?_)
    · refine zr_lconst (v := 0) (q := 15) dL_hasSeat_14 rfl (z_in_of rfl) rfl ?_
      refine zr_last (z := 529) (n := 1) (q := 16) dL_hasSeat_15 rfl k529.1 k529.2.1 k529.2.2 (by decide) (by decide) rfl ?_
      refine zr_goto (q := 22) dL_hasSeat_16 (by decide) ?_
      refine zr_iconst (q := 23) dL_hasSeat_22 rfl (z_in_of rfl) ?_
      refine zr_ireturn dL_hasSeat_23 rfl (z_fit_i _) ?_
      exact ⟨rfl, _, _, hP9, Or.inl ⟨0, by rw [h9], rfl, rfl⟩⟩
    · refine zr_lconst (v := 1) (q := 11) dL_hasSeat_10 rfl (z_in_of rfl) rfl ?_
      refine zr_goto (q := 15) dL_hasSeat_11 (by decide) ?_
      refine zr_last (z := 529) (n := 1) (q := 16) dL_hasSeat_15 rfl k529.1 k529.2.1 k529.2.2 (by decide) (by decide) rfl ?_
      refine zr_goto (q := 22) dL_hasSeat_16 (by decide) ?_
      refine zr_iconst (q := 23) dL_hasSeat_22 rfl (z_in_of rfl) ?_
      refine zr_ireturn dL_hasSeat_23 rfl (z_fit_i _) ?_
      exact ⟨rfl, _, _, hP9, Or.inl ⟨1, by rw [hv.resolve_left h9], rfl, rfl⟩⟩
  · obtain ⟨rfl, hh⟩ := hP _ _ _ hP9
    rcases hh with h | hv
    · obtain ⟨v, hv, _⟩ := h
      exact (z_no hv rfl).elim
    · have hk := congrArg Prod.snd hv
      dsimp only at hk
      subst hk
      refine ⟨3, 20, ⟨[], [], (0, 16, 19, 19), rfl, (fun z hz => by cases hz), by decide, by decide, z_cl19, (z_hdx (k := 0) (by decide)).1, (z_hdx (k := 0) (by decide)).2, Or.inr ⟨3, dL_hasSeat_19, rfl, rfl⟩, by decide, rfl⟩, ?_⟩
      refine zr_iconst (q := 21) dL_hasSeat_20 rfl (z_in_of rfl) ?_
      refine zr_ireturn dL_hasSeat_21 rfl (z_fit_i _) ?_
      exact ⟨rfl, _, _, hP9, Or.inr ⟨rfl, rfl, rfl⟩⟩
def mL_addBallot : zY := (yL_addBallot, cL_addBallot, 5, (some .int), (9, 407), (1, 6, [(0, 10, 13, 19), (0, 10, 17, 32), (0, 10, 21, 13)], fun _ _ => True))
theorem hyL_addBallot : Cond.codeWith mL_addBallot.1 mL_addBallot.2.1 mL_addBallot.2.2.1 mL_addBallot.2.2.2.1 mL_addBallot.2.2.2.2.2.2.2.1 ∈ z_all := z_all_in (i := 737) (by decide +kernel) (by decide +kernel)
theorem hsL_addBallot : Cond.static mL_addBallot.1 ∈ z_all := z_all_in (i := 736) (by decide +kernel) (by decide +kernel)
theorem hiL_addBallot : Cond.initialized mL_addBallot.1.cls ∈ z_all := z_all_in (i := 47) (by decide +kernel) (by decide +kernel)
theorem hpL_addBallot : mL_addBallot.1.cls ≠ "java/lang/invoke/MethodHandle" ∧ mL_addBallot.1.cls ≠ "java/lang/invoke/VarHandle" ∧ (parseMethodDescriptor mL_addBallot.1.desc).map (fun d => d.parameters.length) = some 4 := by decide +kernel
theorem wlL_28 : Cond.methodLink "WindElectionLaw" 28 mX11_addBallot.1 ∈ z_all := z_all_in (i := 739) (by decide +kernel) (by decide +kernel)
theorem w_addBallot {M : zM} {P : zV → zS → zM → Prop} {p0 p1 : Int} (hc : z_Call mX11_addBallot zF [(1, 1), (0, p0), (0, p1)] M P) (hP : ∀ r S' M', P r S' M' → S' = zF ∧ ((∃ v, r = (0, v)) ∨ r = (8, 0) ∨ r = (8, 1) ∨ r = (8, 2))) : z_CallH mL_addBallot zF [(1, 1), (0, p0), (0, p1), (1, 529)] M (fun r S' M' => S' = zF ∧ ∃ r1 M1, P r1 zF M1 ∧ ((∃ v, r1 = (0, v) ∧ r = (0, 0) ∧ M' = z_up M1 529 0 v) ∨ (r1 = (8, 0) ∧ r = (0, 1) ∧ M' = M1) ∨ (r1 = (8, 1) ∧ r = (0, 2) ∧ M' = M1) ∨ (r1 = (8, 2) ∧ r = (0, 3) ∧ M' = M1))) := by
  refine z_enterH (k := 1) rfl rfl rfl ?_
  refine zp_al3 (q := 1) dL_addBallot_0 rfl ?_
  refine zr_iconst (q := 2) dL_addBallot_1 rfl (z_in_of rfl) ?_
  refine zp_al0 (q := 3) dL_addBallot_2 rfl ?_
  refine zp_il1 (q := 4) dL_addBallot_3 rfl ?_
  refine zp_il2 (q := 5) dL_addBallot_4 rfl ?_
  refine zp_callVH2 hc mtX11_addBallot wiX11_addBallot weX11_addBallot wlL_28 (q := 8) dL_addBallot_5 rfl rfl rfl rfl rfl rfl (fun r S9 M9 h8 hP9 => ?_) (fun k S9 M9 hP9 => ?_)
  · obtain ⟨rfl, hh⟩ := hP _ _ _ hP9
    obtain ⟨v, rfl⟩ : ∃ v, r = (0, v) := by
      rcases hh with h | rfl | rfl | rfl
      · exact h
      · exact absurd rfl h8
      · exact absurd rfl h8
      · exact absurd rfl h8
    refine zr_i2l (q := 9) dL_addBallot_8 rfl ?_
    refine zr_last (z := 529) (n := 1) (q := 10) dL_addBallot_9 rfl k529.1 k529.2.1 k529.2.2 (by decide) (by decide) rfl ?_
    refine zr_goto (q := 25) dL_addBallot_10 (by decide) ?_
    refine zr_iconst (q := 26) dL_addBallot_25 rfl (z_in_of rfl) ?_
    refine zr_ireturn dL_addBallot_26 rfl (z_fit_i _) ?_
    exact ⟨rfl, _, _, hP9, Or.inl ⟨v, rfl, rfl, rfl⟩⟩
  · obtain ⟨rfl, hh⟩ := hP _ _ _ hP9
    rcases hh with h | hv | hv | hv
    · obtain ⟨v, hv⟩ := h
      exact (z_no hv rfl).elim
    · have hk := congrArg Prod.snd hv
      dsimp only at hk
      subst hk
      refine ⟨4, 15, ⟨[], [(0, 10, 17, 32), (0, 10, 21, 13)], (0, 10, 13, 19), rfl, (fun z hz => by cases hz), by decide, by decide, z_cl19, (z_hdx (k := 0) (by decide)).1, (z_hdx (k := 0) (by decide)).2, Or.inl ⟨dL_addBallot_13, rfl⟩, by decide, rfl⟩, ?_⟩
      refine zr_iconst (q := 16) dL_addBallot_15 rfl (z_in_of rfl) ?_
      refine zr_ireturn dL_addBallot_16 rfl (z_fit_i _) ?_
      exact ⟨rfl, _, _, hP9, Or.inr (Or.inl ⟨rfl, rfl, rfl⟩)⟩
    · have hk := congrArg Prod.snd hv
      dsimp only at hk
      subst hk
      refine ⟨4, 19, ⟨[(0, 10, 13, 19)], [(0, 10, 21, 13)], (0, 10, 17, 32), rfl, (fun z hz => by
            simp only [List.mem_cons, List.not_mem_nil, or_false] at hz
            rcases hz with rfl
            · exact ⟨by decide, _, (z_hdx (k := 0) (by decide)).2, by decide, z_cl19⟩), by decide, by decide, z_cl32, (z_hdx (k := 1) (by decide)).1, (z_hdx (k := 1) (by decide)).2, Or.inl ⟨dL_addBallot_17, rfl⟩, by decide, rfl⟩, ?_⟩
      refine zr_iconst (q := 20) dL_addBallot_19 rfl (z_in_of rfl) ?_
      refine zr_ireturn dL_addBallot_20 rfl (z_fit_i _) ?_
      exact ⟨rfl, _, _, hP9, Or.inr (Or.inr (Or.inl ⟨rfl, rfl, rfl⟩))⟩
    · have hk := congrArg Prod.snd hv
      dsimp only at hk
      subst hk
      refine ⟨4, 23, ⟨[(0, 10, 13, 19), (0, 10, 17, 32)], [], (0, 10, 21, 13), rfl, (fun z hz => by
            simp only [List.mem_cons, List.not_mem_nil, or_false] at hz
            rcases hz with rfl | rfl
            · exact ⟨by decide, _, (z_hdx (k := 0) (by decide)).2, by decide, z_cl19⟩
            · exact ⟨by decide, _, (z_hdx (k := 1) (by decide)).2, by decide, z_cl32⟩), by decide, by decide, z_cl13, (z_hdx (k := 2) (by decide)).1, (z_hdx (k := 2) (by decide)).2, Or.inl ⟨dL_addBallot_21, rfl⟩, by decide, rfl⟩, ?_⟩
      refine zr_iconst (q := 24) dL_addBallot_23 rfl (z_in_of rfl) ?_
      refine zr_ireturn dL_addBallot_24 rfl (z_fit_i _) ?_
      exact ⟨rfl, _, _, hP9, Or.inr (Or.inr (Or.inr (⟨rfl, rfl, rfl⟩)))⟩
def mL_rank : zY := (yL_rank, cL_rank, 5, (some .int), (9, 407), (2, 12, [(0, 10, 13, 19), (0, 10, 17, 32), (0, 10, 21, 13)], fun _ _ => True))
theorem hyL_rank : Cond.codeWith mL_rank.1 mL_rank.2.1 mL_rank.2.2.1 mL_rank.2.2.2.1 mL_rank.2.2.2.2.2.2.2.1 ∈ z_all := z_all_in (i := 760) (by decide +kernel) (by decide +kernel)
theorem hsL_rank : Cond.static mL_rank.1 ∈ z_all := z_all_in (i := 759) (by decide +kernel) (by decide +kernel)
theorem hiL_rank : Cond.initialized mL_rank.1.cls ∈ z_all := z_all_in (i := 47) (by decide +kernel) (by decide +kernel)
theorem hpL_rank : mL_rank.1.cls ≠ "java/lang/invoke/MethodHandle" ∧ mL_rank.1.cls ≠ "java/lang/invoke/VarHandle" ∧ (parseMethodDescriptor mL_rank.1.desc).map (fun d => d.parameters.length) = some 4 := by decide +kernel
theorem wlL_34 : Cond.methodLink "WindElectionLaw" 34 mX11_rank.1 ∈ z_all := z_all_in (i := 761) (by decide +kernel) (by decide +kernel)
theorem w_rank {M : zM} {P : zV → zS → zM → Prop} {p0 p1 : Int} (hc : z_Call mX11_rank zF [(1, 1), (0, p0), (0, p1)] M P) (hP : ∀ r S' M', P r S' M' → S' = zF ∧ ((∃ v, r = (0, v)) ∨ r = (8, 0) ∨ r = (8, 1) ∨ r = (8, 2))) : z_CallH mL_rank zF [(1, 1), (0, p0), (0, p1), (1, 529)] M (fun r S' M' => S' = zF ∧ ∃ r1 M1, P r1 zF M1 ∧ ((∃ v, r1 = (0, v) ∧ r = (0, 0) ∧ M' = z_up M1 529 0 v) ∨ (r1 = (8, 0) ∧ r = (0, 1) ∧ M' = M1) ∨ (r1 = (8, 1) ∧ r = (0, 2) ∧ M' = M1) ∨ (r1 = (8, 2) ∧ r = (0, 3) ∧ M' = M1))) := by
  refine z_enterH (k := 1) rfl rfl rfl ?_
  refine zp_al3 (q := 1) dL_rank_0 rfl ?_
  refine zr_iconst (q := 2) dL_rank_1 rfl (z_in_of rfl) ?_
  refine zp_al0 (q := 3) dL_rank_2 rfl ?_
  refine zp_il1 (q := 4) dL_rank_3 rfl ?_
  refine zp_il2 (q := 5) dL_rank_4 rfl ?_
  refine zp_callVH2 hc mtX11_rank wiX11_rank weX11_rank wlL_34 (q := 8) dL_rank_5 rfl rfl rfl rfl rfl rfl (fun r S9 M9 h8 hP9 => ?_) (fun k S9 M9 hP9 => ?_)
  · obtain ⟨rfl, hh⟩ := hP _ _ _ hP9
    obtain ⟨v, rfl⟩ : ∃ v, r = (0, v) := by
      rcases hh with h | rfl | rfl | rfl
      · exact h
      · exact absurd rfl h8
      · exact absurd rfl h8
      · exact absurd rfl h8
    refine zr_i2l (q := 9) dL_rank_8 rfl ?_
    refine zr_last (z := 529) (n := 1) (q := 10) dL_rank_9 rfl k529.1 k529.2.1 k529.2.2 (by decide) (by decide) rfl ?_
    refine zr_goto (q := 25) dL_rank_10 (by decide) ?_
    refine zr_iconst (q := 26) dL_rank_25 rfl (z_in_of rfl) ?_
    refine zr_ireturn dL_rank_26 rfl (z_fit_i _) ?_
    exact ⟨rfl, _, _, hP9, Or.inl ⟨v, rfl, rfl, rfl⟩⟩
  · obtain ⟨rfl, hh⟩ := hP _ _ _ hP9
    rcases hh with h | hv | hv | hv
    · obtain ⟨v, hv⟩ := h
      exact (z_no hv rfl).elim
    · have hk := congrArg Prod.snd hv
      dsimp only at hk
      subst hk
      refine ⟨4, 15, ⟨[], [(0, 10, 17, 32), (0, 10, 21, 13)], (0, 10, 13, 19), rfl, (fun z hz => by cases hz), by decide, by decide, z_cl19, (z_hdx (k := 0) (by decide)).1, (z_hdx (k := 0) (by decide)).2, Or.inl ⟨dL_rank_13, rfl⟩, by decide, rfl⟩, ?_⟩
      refine zr_iconst (q := 16) dL_rank_15 rfl (z_in_of rfl) ?_
      refine zr_ireturn dL_rank_16 rfl (z_fit_i _) ?_
      exact ⟨rfl, _, _, hP9, Or.inr (Or.inl ⟨rfl, rfl, rfl⟩)⟩
    · have hk := congrArg Prod.snd hv
      dsimp only at hk
      subst hk
      refine ⟨4, 19, ⟨[(0, 10, 13, 19)], [(0, 10, 21, 13)], (0, 10, 17, 32), rfl, (fun z hz => by
            simp only [List.mem_cons, List.not_mem_nil, or_false] at hz
            rcases hz with rfl
            · exact ⟨by decide, _, (z_hdx (k := 0) (by decide)).2, by decide, z_cl19⟩), by decide, by decide, z_cl32, (z_hdx (k := 1) (by decide)).1, (z_hdx (k := 1) (by decide)).2, Or.inl ⟨dL_rank_17, rfl⟩, by decide, rfl⟩, ?_⟩
      refine zr_iconst (q := 20) dL_rank_19 rfl (z_in_of rfl) ?_
      refine zr_ireturn dL_rank_20 rfl (z_fit_i _) ?_
      exact ⟨rfl, _, _, hP9, Or.inr (Or.inr (Or.inl ⟨rfl, rfl, rfl⟩))⟩
    · have hk := congrArg Prod.snd hv
      dsimp only at hk
      subst hk
      refine ⟨4, 23, ⟨[(0, 10, 13, 19), (0, 10, 17, 32)], [], (0, 10, 21, 13), rfl, (fun z hz => by
            simp only [List.mem_cons, List.not_mem_nil, or_false] at hz
            rcases hz with rfl | rfl
            · exact ⟨by decide, _, (z_hdx (k := 0) (by decide)).2, by decide, z_cl19⟩
            · exact ⟨by decide, _, (z_hdx (k := 1) (by decide)).2, by decide, z_cl32⟩), by decide, by decide, z_cl13, (z_hdx (k := 2) (by decide)).1, (z_hdx (k := 2) (by decide)).2, Or.inl ⟨dL_rank_21, rfl⟩, by decide, rfl⟩, ?_⟩
      refine zr_iconst (q := 24) dL_rank_23 rfl (z_in_of rfl) ?_
      refine zr_ireturn dL_rank_24 rfl (z_fit_i _) ?_
      exact ⟨rfl, _, _, hP9, Or.inr (Or.inr (Or.inr (⟨rfl, rfl, rfl⟩)))⟩
def mL_removeBallot : zY := (yL_removeBallot, cL_removeBallot, 4, (some .int), (9, 407), (2, 12, [(0, 9, 12, 19)], fun _ _ => True))
theorem hyL_removeBallot : Cond.codeWith mL_removeBallot.1 mL_removeBallot.2.1 mL_removeBallot.2.2.1 mL_removeBallot.2.2.2.1 mL_removeBallot.2.2.2.2.2.2.2.1 ∈ z_all := z_all_in (i := 791) (by decide +kernel) (by decide +kernel)
theorem hsL_removeBallot : Cond.static mL_removeBallot.1 ∈ z_all := z_all_in (i := 790) (by decide +kernel) (by decide +kernel)
theorem hiL_removeBallot : Cond.initialized mL_removeBallot.1.cls ∈ z_all := z_all_in (i := 47) (by decide +kernel) (by decide +kernel)
theorem hpL_removeBallot : mL_removeBallot.1.cls ≠ "java/lang/invoke/MethodHandle" ∧ mL_removeBallot.1.cls ≠ "java/lang/invoke/VarHandle" ∧ (parseMethodDescriptor mL_removeBallot.1.desc).map (fun d => d.parameters.length) = some 3 := by decide +kernel
theorem wlL_37 : Cond.methodLink "WindElectionLaw" 37 mX11_removeBallot.1 ∈ z_all := z_all_in (i := 792) (by decide +kernel) (by decide +kernel)
theorem w_removeBallot {M : zM} {P : zV → zS → zM → Prop} {p0 : Int} (hc : z_Call mX11_removeBallot zF [(1, 1), (0, p0)] M P) (hP : ∀ r S' M', P r S' M' → S' = zF ∧ ((∃ v, r = (0, v)) ∨ r = (8, 0))) : z_CallH mL_removeBallot zF [(1, 1), (0, p0), (1, 529)] M (fun r S' M' => S' = zF ∧ ∃ r1 M1, P r1 zF M1 ∧ ((∃ v, r1 = (0, v) ∧ r = (0, 0) ∧ M' = z_up M1 529 0 v) ∨ (r1 = (8, 0) ∧ r = (0, 1) ∧ M' = M1))) := by
  refine z_enterH (k := 1) rfl rfl rfl ?_
  refine zp_al2 (q := 1) dL_removeBallot_0 rfl ?_
  refine zr_iconst (q := 2) dL_removeBallot_1 rfl (z_in_of rfl) ?_
  refine zp_al0 (q := 3) dL_removeBallot_2 rfl ?_
  refine zp_il1 (q := 4) dL_removeBallot_3 rfl ?_
  refine zp_callVH1 hc mtX11_removeBallot wiX11_removeBallot weX11_removeBallot wlL_37 (q := 7) dL_removeBallot_4 rfl rfl rfl rfl rfl rfl (fun r S9 M9 h8 hP9 => ?_) (fun k S9 M9 hP9 => ?_)
  · obtain ⟨rfl, hh⟩ := hP _ _ _ hP9
    obtain ⟨v, rfl⟩ : ∃ v, r = (0, v) := by
      rcases hh with h | rfl
      · exact h
      · exact absurd rfl h8
    refine zr_i2l (q := 8) dL_removeBallot_7 rfl ?_
    refine zr_last (z := 529) (n := 1) (q := 9) dL_removeBallot_8 rfl k529.1 k529.2.1 k529.2.2 (by decide) (by decide) rfl ?_
    refine zr_goto (q := 15) dL_removeBallot_9 (by decide) ?_
    refine zr_iconst (q := 16) dL_removeBallot_15 rfl (z_in_of rfl) ?_
    refine zr_ireturn dL_removeBallot_16 rfl (z_fit_i _) ?_
    exact ⟨rfl, _, _, hP9, Or.inl ⟨v, rfl, rfl, rfl⟩⟩
  · obtain ⟨rfl, hh⟩ := hP _ _ _ hP9
    rcases hh with h | hv
    · obtain ⟨v, hv⟩ := h
      exact (z_no hv rfl).elim
    · have hk := congrArg Prod.snd hv
      dsimp only at hk
      subst hk
      refine ⟨3, 13, ⟨[], [], (0, 9, 12, 19), rfl, (fun z hz => by cases hz), by decide, by decide, z_cl19, (z_hdx (k := 0) (by decide)).1, (z_hdx (k := 0) (by decide)).2, Or.inr ⟨3, dL_removeBallot_12, rfl, rfl⟩, by decide, rfl⟩, ?_⟩
      refine zr_iconst (q := 14) dL_removeBallot_13 rfl (z_in_of rfl) ?_
      refine zr_ireturn dL_removeBallot_14 rfl (z_fit_i _) ?_
      exact ⟨rfl, _, _, hP9, Or.inr ⟨rfl, rfl, rfl⟩⟩
def mL_recount : zY := (yL_recount, cL_recount, 5, (some .int), (9, 408), (2, 12, [(0, 10, 13, 19), (0, 10, 17, 32)], fun _ _ => True))
theorem hyL_recount : Cond.codeWith mL_recount.1 mL_recount.2.1 mL_recount.2.2.1 mL_recount.2.2.2.1 mL_recount.2.2.2.2.2.2.2.1 ∈ z_all := z_all_in (i := 802) (by decide +kernel) (by decide +kernel)
theorem hsL_recount : Cond.static mL_recount.1 ∈ z_all := z_all_in (i := 801) (by decide +kernel) (by decide +kernel)
theorem hiL_recount : Cond.initialized mL_recount.1.cls ∈ z_all := z_all_in (i := 47) (by decide +kernel) (by decide +kernel)
theorem hpL_recount : mL_recount.1.cls ≠ "java/lang/invoke/MethodHandle" ∧ mL_recount.1.cls ≠ "java/lang/invoke/VarHandle" ∧ (parseMethodDescriptor mL_recount.1.desc).map (fun d => d.parameters.length) = some 4 := by decide +kernel
theorem wlL_40 : Cond.methodLink "WindElectionLaw" 40 mX11_recount.1 ∈ z_all := z_all_in (i := 803) (by decide +kernel) (by decide +kernel)
theorem w_recount {M : zM} {P : zV → zS → zM → Prop} {p0 p1 : Int} (hc : z_Call mX11_recount zF [(1, 1), (0, p0), (0, p1)] M P) (hP : ∀ r S' M', P r S' M' → S' = zF ∧ ((∃ v, r = (0, v)) ∨ r = (8, 0) ∨ r = (8, 1))) : z_CallH mL_recount zF [(1, 1), (0, p0), (0, p1), (1, 529)] M (fun r S' M' => S' = zF ∧ ∃ r1 M1, P r1 zF M1 ∧ ((∃ v, r1 = (0, v) ∧ r = (0, 0) ∧ M' = z_up M1 529 0 v) ∨ (r1 = (8, 0) ∧ r = (0, 1) ∧ M' = M1) ∨ (r1 = (8, 1) ∧ r = (0, 2) ∧ M' = M1))) := by
  refine z_enterH (k := 1) rfl rfl rfl ?_
  refine zp_al3 (q := 1) dL_recount_0 rfl ?_
  refine zr_iconst (q := 2) dL_recount_1 rfl (z_in_of rfl) ?_
  refine zp_al0 (q := 3) dL_recount_2 rfl ?_
  refine zp_il1 (q := 4) dL_recount_3 rfl ?_
  refine zp_il2 (q := 5) dL_recount_4 rfl ?_
  refine zp_callVH2 hc mtX11_recount wiX11_recount weX11_recount wlL_40 (q := 8) dL_recount_5 rfl rfl rfl rfl rfl rfl (fun r S9 M9 h8 hP9 => ?_) (fun k S9 M9 hP9 => ?_)
  · obtain ⟨rfl, hh⟩ := hP _ _ _ hP9
    obtain ⟨v, rfl⟩ : ∃ v, r = (0, v) := by
      rcases hh with h | rfl | rfl
      · exact h
      · exact absurd rfl h8
      · exact absurd rfl h8
    refine zr_i2l (q := 9) dL_recount_8 rfl ?_
    refine zr_last (z := 529) (n := 1) (q := 10) dL_recount_9 rfl k529.1 k529.2.1 k529.2.2 (by decide) (by decide) rfl ?_
    refine zr_goto (q := 21) dL_recount_10 (by decide) ?_
    refine zr_iconst (q := 22) dL_recount_21 rfl (z_in_of rfl) ?_
    refine zr_ireturn dL_recount_22 rfl (z_fit_i _) ?_
    exact ⟨rfl, _, _, hP9, Or.inl ⟨v, rfl, rfl, rfl⟩⟩
  · obtain ⟨rfl, hh⟩ := hP _ _ _ hP9
    rcases hh with h | hv | hv
    · obtain ⟨v, hv⟩ := h
      exact (z_no hv rfl).elim
    · have hk := congrArg Prod.snd hv
      dsimp only at hk
      subst hk
      refine ⟨4, 15, ⟨[], [(0, 10, 17, 32)], (0, 10, 13, 19), rfl, (fun z hz => by cases hz), by decide, by decide, z_cl19, (z_hdx (k := 0) (by decide)).1, (z_hdx (k := 0) (by decide)).2, Or.inl ⟨dL_recount_13, rfl⟩, by decide, rfl⟩, ?_⟩
      refine zr_iconst (q := 16) dL_recount_15 rfl (z_in_of rfl) ?_
      refine zr_ireturn dL_recount_16 rfl (z_fit_i _) ?_
      exact ⟨rfl, _, _, hP9, Or.inr (Or.inl ⟨rfl, rfl, rfl⟩)⟩
    · have hk := congrArg Prod.snd hv
      dsimp only at hk
      subst hk
      refine ⟨4, 19, ⟨[(0, 10, 13, 19)], [], (0, 10, 17, 32), rfl, (fun z hz => by
            simp only [List.mem_cons, List.not_mem_nil, or_false] at hz
            rcases hz with rfl
            · exact ⟨by decide, _, (z_hdx (k := 0) (by decide)).2, by decide, z_cl19⟩), by decide, by decide, z_cl32, (z_hdx (k := 1) (by decide)).1, (z_hdx (k := 1) (by decide)).2, Or.inl ⟨dL_recount_17, rfl⟩, by decide, rfl⟩, ?_⟩
      refine zr_iconst (q := 20) dL_recount_19 rfl (z_in_of rfl) ?_
      refine zr_ireturn dL_recount_20 rfl (z_fit_i _) ?_
      exact ⟨rfl, _, _, hP9, Or.inr (Or.inr (⟨rfl, rfl, rfl⟩))⟩
def mL_weightOf : zY := (yL_weightOf, cL_weightOf, 4, (some .int), (8, 132), (1, 6, [(0, 9, 12, 19)], fun _ _ => True))
theorem hyL_weightOf : Cond.codeWith mL_weightOf.1 mL_weightOf.2.1 mL_weightOf.2.2.1 mL_weightOf.2.2.2.1 mL_weightOf.2.2.2.2.2.2.2.1 ∈ z_all := z_all_in (i := 813) (by decide +kernel) (by decide +kernel)
theorem hsL_weightOf : Cond.static mL_weightOf.1 ∈ z_all := z_all_in (i := 812) (by decide +kernel) (by decide +kernel)
theorem hiL_weightOf : Cond.initialized mL_weightOf.1.cls ∈ z_all := z_all_in (i := 47) (by decide +kernel) (by decide +kernel)
theorem hpL_weightOf : mL_weightOf.1.cls ≠ "java/lang/invoke/MethodHandle" ∧ mL_weightOf.1.cls ≠ "java/lang/invoke/VarHandle" ∧ (parseMethodDescriptor mL_weightOf.1.desc).map (fun d => d.parameters.length) = some 3 := by decide +kernel
theorem wlL_43 : Cond.methodLink "WindElectionLaw" 43 mX11_weightOf.1 ∈ z_all := z_all_in (i := 814) (by decide +kernel) (by decide +kernel)
theorem w_weightOf {M : zM} {P : zV → zS → zM → Prop} {p0 : Int} (hc : z_Call mX11_weightOf zF [(1, 1), (0, p0)] M P) (hP : ∀ r S' M', P r S' M' → S' = zF ∧ ((∃ v, r = (0, v)) ∨ r = (8, 0))) : z_CallH mL_weightOf zF [(1, 1), (0, p0), (1, 529)] M (fun r S' M' => S' = zF ∧ ∃ r1 M1, P r1 zF M1 ∧ ((∃ v, r1 = (0, v) ∧ r = (0, 0) ∧ M' = z_up M1 529 0 v) ∨ (r1 = (8, 0) ∧ r = (0, 1) ∧ M' = M1))) := by
  refine z_enterH (k := 1) rfl rfl rfl ?_
  refine zp_al2 (q := 1) dL_weightOf_0 rfl ?_
  refine zr_iconst (q := 2) dL_weightOf_1 rfl (z_in_of rfl) ?_
  refine zp_al0 (q := 3) dL_weightOf_2 rfl ?_
  refine zp_il1 (q := 4) dL_weightOf_3 rfl ?_
  refine zp_callVH1 hc mtX11_weightOf wiX11_weightOf weX11_weightOf wlL_43 (q := 7) dL_weightOf_4 rfl rfl rfl rfl rfl rfl (fun r S9 M9 h8 hP9 => ?_) (fun k S9 M9 hP9 => ?_)
  · obtain ⟨rfl, hh⟩ := hP _ _ _ hP9
    obtain ⟨v, rfl⟩ : ∃ v, r = (0, v) := by
      rcases hh with h | rfl
      · exact h
      · exact absurd rfl h8
    refine zr_i2l (q := 8) dL_weightOf_7 rfl ?_
    refine zr_last (z := 529) (n := 1) (q := 9) dL_weightOf_8 rfl k529.1 k529.2.1 k529.2.2 (by decide) (by decide) rfl ?_
    refine zr_goto (q := 15) dL_weightOf_9 (by decide) ?_
    refine zr_iconst (q := 16) dL_weightOf_15 rfl (z_in_of rfl) ?_
    refine zr_ireturn dL_weightOf_16 rfl (z_fit_i _) ?_
    exact ⟨rfl, _, _, hP9, Or.inl ⟨v, rfl, rfl, rfl⟩⟩
  · obtain ⟨rfl, hh⟩ := hP _ _ _ hP9
    rcases hh with h | hv
    · obtain ⟨v, hv⟩ := h
      exact (z_no hv rfl).elim
    · have hk := congrArg Prod.snd hv
      dsimp only at hk
      subst hk
      refine ⟨3, 13, ⟨[], [], (0, 9, 12, 19), rfl, (fun z hz => by cases hz), by decide, by decide, z_cl19, (z_hdx (k := 0) (by decide)).1, (z_hdx (k := 0) (by decide)).2, Or.inr ⟨3, dL_weightOf_12, rfl, rfl⟩, by decide, rfl⟩, ?_⟩
      refine zr_iconst (q := 14) dL_weightOf_13 rfl (z_in_of rfl) ?_
      refine zr_ireturn dL_weightOf_14 rfl (z_fit_i _) ?_
      exact ⟨rfl, _, _, hP9, Or.inr ⟨rfl, rfl, rfl⟩⟩
def mL_rankCount : zY := (yL_rankCount, cL_rankCount, 4, (some .int), (8, 132), (1, 6, [(0, 9, 12, 19)], fun _ _ => True))
theorem hyL_rankCount : Cond.codeWith mL_rankCount.1 mL_rankCount.2.1 mL_rankCount.2.2.1 mL_rankCount.2.2.2.1 mL_rankCount.2.2.2.2.2.2.2.1 ∈ z_all := z_all_in (i := 820) (by decide +kernel) (by decide +kernel)
theorem hsL_rankCount : Cond.static mL_rankCount.1 ∈ z_all := z_all_in (i := 819) (by decide +kernel) (by decide +kernel)
theorem hiL_rankCount : Cond.initialized mL_rankCount.1.cls ∈ z_all := z_all_in (i := 47) (by decide +kernel) (by decide +kernel)
theorem hpL_rankCount : mL_rankCount.1.cls ≠ "java/lang/invoke/MethodHandle" ∧ mL_rankCount.1.cls ≠ "java/lang/invoke/VarHandle" ∧ (parseMethodDescriptor mL_rankCount.1.desc).map (fun d => d.parameters.length) = some 3 := by decide +kernel
theorem wlL_46 : Cond.methodLink "WindElectionLaw" 46 mX11_rankCount.1 ∈ z_all := z_all_in (i := 821) (by decide +kernel) (by decide +kernel)
theorem w_rankCount {M : zM} {P : zV → zS → zM → Prop} {p0 : Int} (hc : z_Call mX11_rankCount zF [(1, 1), (0, p0)] M P) (hP : ∀ r S' M', P r S' M' → S' = zF ∧ ((∃ v, r = (0, v)) ∨ r = (8, 0))) : z_CallH mL_rankCount zF [(1, 1), (0, p0), (1, 529)] M (fun r S' M' => S' = zF ∧ ∃ r1 M1, P r1 zF M1 ∧ ((∃ v, r1 = (0, v) ∧ r = (0, 0) ∧ M' = z_up M1 529 0 v) ∨ (r1 = (8, 0) ∧ r = (0, 1) ∧ M' = M1))) := by
  refine z_enterH (k := 1) rfl rfl rfl ?_
  refine zp_al2 (q := 1) dL_rankCount_0 rfl ?_
  refine zr_iconst (q := 2) dL_rankCount_1 rfl (z_in_of rfl) ?_
  refine zp_al0 (q := 3) dL_rankCount_2 rfl ?_
  refine zp_il1 (q := 4) dL_rankCount_3 rfl ?_
  refine zp_callVH1 hc mtX11_rankCount wiX11_rankCount weX11_rankCount wlL_46 (q := 7) dL_rankCount_4 rfl rfl rfl rfl rfl rfl (fun r S9 M9 h8 hP9 => ?_) (fun k S9 M9 hP9 => ?_)
  · obtain ⟨rfl, hh⟩ := hP _ _ _ hP9
    obtain ⟨v, rfl⟩ : ∃ v, r = (0, v) := by
      rcases hh with h | rfl
      · exact h
      · exact absurd rfl h8
    refine zr_i2l (q := 8) dL_rankCount_7 rfl ?_
    refine zr_last (z := 529) (n := 1) (q := 9) dL_rankCount_8 rfl k529.1 k529.2.1 k529.2.2 (by decide) (by decide) rfl ?_
    refine zr_goto (q := 15) dL_rankCount_9 (by decide) ?_
    refine zr_iconst (q := 16) dL_rankCount_15 rfl (z_in_of rfl) ?_
    refine zr_ireturn dL_rankCount_16 rfl (z_fit_i _) ?_
    exact ⟨rfl, _, _, hP9, Or.inl ⟨v, rfl, rfl, rfl⟩⟩
  · obtain ⟨rfl, hh⟩ := hP _ _ _ hP9
    rcases hh with h | hv
    · obtain ⟨v, hv⟩ := h
      exact (z_no hv rfl).elim
    · have hk := congrArg Prod.snd hv
      dsimp only at hk
      subst hk
      refine ⟨3, 13, ⟨[], [], (0, 9, 12, 19), rfl, (fun z hz => by cases hz), by decide, by decide, z_cl19, (z_hdx (k := 0) (by decide)).1, (z_hdx (k := 0) (by decide)).2, Or.inr ⟨3, dL_rankCount_12, rfl, rfl⟩, by decide, rfl⟩, ?_⟩
      refine zr_iconst (q := 14) dL_rankCount_13 rfl (z_in_of rfl) ?_
      refine zr_ireturn dL_rankCount_14 rfl (z_fit_i _) ?_
      exact ⟨rfl, _, _, hP9, Or.inr ⟨rfl, rfl, rfl⟩⟩
def mL_windAt : zY := (yL_windAt, cL_windAt, 5, (some .int), (8, 134), (2, 12, [(0, 10, 13, 19), (0, 10, 17, 52)], fun _ _ => True))
theorem hyL_windAt : Cond.codeWith mL_windAt.1 mL_windAt.2.1 mL_windAt.2.2.1 mL_windAt.2.2.2.1 mL_windAt.2.2.2.2.2.2.2.1 ∈ z_all := z_all_in (i := 827) (by decide +kernel) (by decide +kernel)
theorem hsL_windAt : Cond.static mL_windAt.1 ∈ z_all := z_all_in (i := 826) (by decide +kernel) (by decide +kernel)
theorem hiL_windAt : Cond.initialized mL_windAt.1.cls ∈ z_all := z_all_in (i := 47) (by decide +kernel) (by decide +kernel)
theorem hpL_windAt : mL_windAt.1.cls ≠ "java/lang/invoke/MethodHandle" ∧ mL_windAt.1.cls ≠ "java/lang/invoke/VarHandle" ∧ (parseMethodDescriptor mL_windAt.1.desc).map (fun d => d.parameters.length) = some 4 := by decide +kernel
theorem wlL_49 : Cond.methodLink "WindElectionLaw" 49 mX11_windAt.1 ∈ z_all := z_all_in (i := 829) (by decide +kernel) (by decide +kernel)
theorem w_windAt {M : zM} {P : zV → zS → zM → Prop} {p0 p1 : Int} (hc : z_Call mX11_windAt zF [(1, 1), (0, p0), (0, p1)] M P) (hP : ∀ r S' M', P r S' M' → S' = zF ∧ ((∃ v, r = (0, v)) ∨ r = (8, 0) ∨ r = (8, 4))) : z_CallH mL_windAt zF [(1, 1), (0, p0), (0, p1), (1, 529)] M (fun r S' M' => S' = zF ∧ ∃ r1 M1, P r1 zF M1 ∧ ((∃ v, r1 = (0, v) ∧ r = (0, 0) ∧ M' = z_up M1 529 0 v) ∨ (r1 = (8, 0) ∧ r = (0, 1) ∧ M' = M1) ∨ (r1 = (8, 4) ∧ r = (0, 2) ∧ M' = M1))) := by
  refine z_enterH (k := 1) rfl rfl rfl ?_
  refine zp_al3 (q := 1) dL_windAt_0 rfl ?_
  refine zr_iconst (q := 2) dL_windAt_1 rfl (z_in_of rfl) ?_
  refine zp_al0 (q := 3) dL_windAt_2 rfl ?_
  refine zp_il1 (q := 4) dL_windAt_3 rfl ?_
  refine zp_il2 (q := 5) dL_windAt_4 rfl ?_
  refine zp_callVH2 hc mtX11_windAt wiX11_windAt weX11_windAt wlL_49 (q := 8) dL_windAt_5 rfl rfl rfl rfl rfl rfl (fun r S9 M9 h8 hP9 => ?_) (fun k S9 M9 hP9 => ?_)
  · obtain ⟨rfl, hh⟩ := hP _ _ _ hP9
    obtain ⟨v, rfl⟩ : ∃ v, r = (0, v) := by
      rcases hh with h | rfl | rfl
      · exact h
      · exact absurd rfl h8
      · exact absurd rfl h8
    refine zr_i2l (q := 9) dL_windAt_8 rfl ?_
    refine zr_last (z := 529) (n := 1) (q := 10) dL_windAt_9 rfl k529.1 k529.2.1 k529.2.2 (by decide) (by decide) rfl ?_
    refine zr_goto (q := 21) dL_windAt_10 (by decide) ?_
    refine zr_iconst (q := 22) dL_windAt_21 rfl (z_in_of rfl) ?_
    refine zr_ireturn dL_windAt_22 rfl (z_fit_i _) ?_
    exact ⟨rfl, _, _, hP9, Or.inl ⟨v, rfl, rfl, rfl⟩⟩
  · obtain ⟨rfl, hh⟩ := hP _ _ _ hP9
    rcases hh with h | hv | hv
    · obtain ⟨v, hv⟩ := h
      exact (z_no hv rfl).elim
    · have hk := congrArg Prod.snd hv
      dsimp only at hk
      subst hk
      refine ⟨4, 15, ⟨[], [(0, 10, 17, 52)], (0, 10, 13, 19), rfl, (fun z hz => by cases hz), by decide, by decide, z_cl19, (z_hdx (k := 0) (by decide)).1, (z_hdx (k := 0) (by decide)).2, Or.inl ⟨dL_windAt_13, rfl⟩, by decide, rfl⟩, ?_⟩
      refine zr_iconst (q := 16) dL_windAt_15 rfl (z_in_of rfl) ?_
      refine zr_ireturn dL_windAt_16 rfl (z_fit_i _) ?_
      exact ⟨rfl, _, _, hP9, Or.inr (Or.inl ⟨rfl, rfl, rfl⟩)⟩
    · have hk := congrArg Prod.snd hv
      dsimp only at hk
      subst hk
      refine ⟨4, 19, ⟨[(0, 10, 13, 19)], [], (0, 10, 17, 52), rfl, (fun z hz => by
            simp only [List.mem_cons, List.not_mem_nil, or_false] at hz
            rcases hz with rfl
            · exact ⟨by decide, _, (z_hdx (k := 0) (by decide)).2, by decide, z_cl19⟩), by decide, by decide, z_cl52, (z_hdx (k := 4) (by decide)).1, (z_hdx (k := 4) (by decide)).2, Or.inl ⟨dL_windAt_17, rfl⟩, by decide, rfl⟩, ?_⟩
      refine zr_iconst (q := 20) dL_windAt_19 rfl (z_in_of rfl) ?_
      refine zr_ireturn dL_windAt_20 rfl (z_fit_i _) ?_
      exact ⟨rfl, _, _, hP9, Or.inr (Or.inr (⟨rfl, rfl, rfl⟩))⟩
def mL_rankOf : zY := (yL_rankOf, cL_rankOf, 5, (some .int), (8, 134), (3, 18, [(0, 10, 13, 19), (0, 10, 17, 52)], fun _ _ => True))
theorem hyL_rankOf : Cond.codeWith mL_rankOf.1 mL_rankOf.2.1 mL_rankOf.2.2.1 mL_rankOf.2.2.2.1 mL_rankOf.2.2.2.2.2.2.2.1 ∈ z_all := z_all_in (i := 836) (by decide +kernel) (by decide +kernel)
theorem hsL_rankOf : Cond.static mL_rankOf.1 ∈ z_all := z_all_in (i := 835) (by decide +kernel) (by decide +kernel)
theorem hiL_rankOf : Cond.initialized mL_rankOf.1.cls ∈ z_all := z_all_in (i := 47) (by decide +kernel) (by decide +kernel)
theorem hpL_rankOf : mL_rankOf.1.cls ≠ "java/lang/invoke/MethodHandle" ∧ mL_rankOf.1.cls ≠ "java/lang/invoke/VarHandle" ∧ (parseMethodDescriptor mL_rankOf.1.desc).map (fun d => d.parameters.length) = some 4 := by decide +kernel
theorem wlL_54 : Cond.methodLink "WindElectionLaw" 54 mX11_rankOf.1 ∈ z_all := z_all_in (i := 837) (by decide +kernel) (by decide +kernel)
theorem w_rankOf {M : zM} {P : zV → zS → zM → Prop} {p0 p1 : Int} (hc : z_Call mX11_rankOf zF [(1, 1), (0, p0), (0, p1)] M P) (hP : ∀ r S' M', P r S' M' → S' = zF ∧ ((∃ v, r = (0, v)) ∨ r = (8, 0) ∨ r = (8, 4))) : z_CallH mL_rankOf zF [(1, 1), (0, p0), (0, p1), (1, 529)] M (fun r S' M' => S' = zF ∧ ∃ r1 M1, P r1 zF M1 ∧ ((∃ v, r1 = (0, v) ∧ r = (0, 0) ∧ M' = z_up M1 529 0 v) ∨ (r1 = (8, 0) ∧ r = (0, 1) ∧ M' = M1) ∨ (r1 = (8, 4) ∧ r = (0, 2) ∧ M' = M1))) := by
  refine z_enterH (k := 1) rfl rfl rfl ?_
  refine zp_al3 (q := 1) dL_rankOf_0 rfl ?_
  refine zr_iconst (q := 2) dL_rankOf_1 rfl (z_in_of rfl) ?_
  refine zp_al0 (q := 3) dL_rankOf_2 rfl ?_
  refine zp_il1 (q := 4) dL_rankOf_3 rfl ?_
  refine zp_il2 (q := 5) dL_rankOf_4 rfl ?_
  refine zp_callVH2 hc mtX11_rankOf wiX11_rankOf weX11_rankOf wlL_54 (q := 8) dL_rankOf_5 rfl rfl rfl rfl rfl rfl (fun r S9 M9 h8 hP9 => ?_) (fun k S9 M9 hP9 => ?_)
  · obtain ⟨rfl, hh⟩ := hP _ _ _ hP9
    obtain ⟨v, rfl⟩ : ∃ v, r = (0, v) := by
      rcases hh with h | rfl | rfl
      · exact h
      · exact absurd rfl h8
      · exact absurd rfl h8
    refine zr_i2l (q := 9) dL_rankOf_8 rfl ?_
    refine zr_last (z := 529) (n := 1) (q := 10) dL_rankOf_9 rfl k529.1 k529.2.1 k529.2.2 (by decide) (by decide) rfl ?_
    refine zr_goto (q := 21) dL_rankOf_10 (by decide) ?_
    refine zr_iconst (q := 22) dL_rankOf_21 rfl (z_in_of rfl) ?_
    refine zr_ireturn dL_rankOf_22 rfl (z_fit_i _) ?_
    exact ⟨rfl, _, _, hP9, Or.inl ⟨v, rfl, rfl, rfl⟩⟩
  · obtain ⟨rfl, hh⟩ := hP _ _ _ hP9
    rcases hh with h | hv | hv
    · obtain ⟨v, hv⟩ := h
      exact (z_no hv rfl).elim
    · have hk := congrArg Prod.snd hv
      dsimp only at hk
      subst hk
      refine ⟨4, 15, ⟨[], [(0, 10, 17, 52)], (0, 10, 13, 19), rfl, (fun z hz => by cases hz), by decide, by decide, z_cl19, (z_hdx (k := 0) (by decide)).1, (z_hdx (k := 0) (by decide)).2, Or.inl ⟨dL_rankOf_13, rfl⟩, by decide, rfl⟩, ?_⟩
      refine zr_iconst (q := 16) dL_rankOf_15 rfl (z_in_of rfl) ?_
      refine zr_ireturn dL_rankOf_16 rfl (z_fit_i _) ?_
      exact ⟨rfl, _, _, hP9, Or.inr (Or.inl ⟨rfl, rfl, rfl⟩)⟩
    · have hk := congrArg Prod.snd hv
      dsimp only at hk
      subst hk
      refine ⟨4, 19, ⟨[(0, 10, 13, 19)], [], (0, 10, 17, 52), rfl, (fun z hz => by
            simp only [List.mem_cons, List.not_mem_nil, or_false] at hz
            rcases hz with rfl
            · exact ⟨by decide, _, (z_hdx (k := 0) (by decide)).2, by decide, z_cl19⟩), by decide, by decide, z_cl52, (z_hdx (k := 4) (by decide)).1, (z_hdx (k := 4) (by decide)).2, Or.inl ⟨dL_rankOf_17, rfl⟩, by decide, rfl⟩, ?_⟩
      refine zr_iconst (q := 20) dL_rankOf_19 rfl (z_in_of rfl) ?_
      refine zr_ireturn dL_rankOf_20 rfl (z_fit_i _) ?_
      exact ⟨rfl, _, _, hP9, Or.inr (Or.inr (⟨rfl, rfl, rfl⟩))⟩
def mL_winner : zY := (yL_winner, cL_winner, 3, (some .int), (8, 130), (1, 6, [(0, 8, 11, 52)], fun _ _ => True))
theorem hyL_winner : Cond.codeWith mL_winner.1 mL_winner.2.1 mL_winner.2.2.1 mL_winner.2.2.2.1 mL_winner.2.2.2.2.2.2.2.1 ∈ z_all := z_all_in (i := 848) (by decide +kernel) (by decide +kernel)
theorem hsL_winner : Cond.static mL_winner.1 ∈ z_all := z_all_in (i := 847) (by decide +kernel) (by decide +kernel)
theorem hiL_winner : Cond.initialized mL_winner.1.cls ∈ z_all := z_all_in (i := 47) (by decide +kernel) (by decide +kernel)
theorem hpL_winner : mL_winner.1.cls ≠ "java/lang/invoke/MethodHandle" ∧ mL_winner.1.cls ≠ "java/lang/invoke/VarHandle" ∧ (parseMethodDescriptor mL_winner.1.desc).map (fun d => d.parameters.length) = some 2 := by decide +kernel
theorem wlL_57 : Cond.methodLink "WindElectionLaw" 57 mX11_winner.1 ∈ z_all := z_all_in (i := 849) (by decide +kernel) (by decide +kernel)
theorem w_winner {M : zM} {P : zV → zS → zM → Prop} (hc : z_Call mX11_winner zF [(1, 1)] M P) (hP : ∀ r S' M', P r S' M' → S' = zF ∧ ((∃ v, r = (0, v)) ∨ r = (8, 4))) : z_CallH mL_winner zF [(1, 1), (1, 529)] M (fun r S' M' => S' = zF ∧ ∃ r1 M1, P r1 zF M1 ∧ ((∃ v, r1 = (0, v) ∧ r = (0, 0) ∧ M' = z_up M1 529 0 v) ∨ (r1 = (8, 4) ∧ r = (0, 1) ∧ M' = M1))) := by
  refine z_enterH (k := 1) rfl rfl rfl ?_
  refine zp_al1 (q := 1) dL_winner_0 rfl ?_
  refine zr_iconst (q := 2) dL_winner_1 rfl (z_in_of rfl) ?_
  refine zp_al0 (q := 3) dL_winner_2 rfl ?_
  refine zp_callVH0 hc mtX11_winner wiX11_winner weX11_winner wlL_57 (q := 6) dL_winner_3 rfl rfl rfl rfl rfl rfl (fun r S9 M9 h8 hP9 => ?_) (fun k S9 M9 hP9 => ?_)
  · obtain ⟨rfl, hh⟩ := hP _ _ _ hP9
    obtain ⟨v, rfl⟩ : ∃ v, r = (0, v) := by
      rcases hh with h | rfl
      · exact h
      · exact absurd rfl h8
    refine zr_i2l (q := 7) dL_winner_6 rfl ?_
    refine zr_last (z := 529) (n := 1) (q := 8) dL_winner_7 rfl k529.1 k529.2.1 k529.2.2 (by decide) (by decide) rfl ?_
    refine zr_goto (q := 14) dL_winner_8 (by decide) ?_
    refine zr_iconst (q := 15) dL_winner_14 rfl (z_in_of rfl) ?_
    refine zr_ireturn dL_winner_15 rfl (z_fit_i _) ?_
    exact ⟨rfl, _, _, hP9, Or.inl ⟨v, rfl, rfl, rfl⟩⟩
  · obtain ⟨rfl, hh⟩ := hP _ _ _ hP9
    rcases hh with h | hv
    · obtain ⟨v, hv⟩ := h
      exact (z_no hv rfl).elim
    · have hk := congrArg Prod.snd hv
      dsimp only at hk
      subst hk
      refine ⟨2, 12, ⟨[], [], (0, 8, 11, 52), rfl, (fun z hz => by cases hz), by decide, by decide, z_cl52, (z_hdx (k := 4) (by decide)).1, (z_hdx (k := 4) (by decide)).2, Or.inr ⟨2, dL_winner_11, rfl, rfl⟩, by decide, rfl⟩, ?_⟩
      refine zr_iconst (q := 13) dL_winner_12 rfl (z_in_of rfl) ?_
      refine zr_ireturn dL_winner_13 rfl (z_fit_i _) ?_
      exact ⟨rfl, _, _, hP9, Or.inr ⟨rfl, rfl, rfl⟩⟩
def mL_winnerByTransfers : zY := (yL_winnerByTransfers, cL_winnerByTransfers, 3, (some .int), (8, 130), (1, 6, [(0, 8, 11, 52)], fun _ _ => True))
theorem hyL_winnerByTransfers : Cond.codeWith mL_winnerByTransfers.1 mL_winnerByTransfers.2.1 mL_winnerByTransfers.2.2.1 mL_winnerByTransfers.2.2.2.1 mL_winnerByTransfers.2.2.2.2.2.2.2.1 ∈ z_all := z_all_in (i := 855) (by decide +kernel) (by decide +kernel)
theorem hsL_winnerByTransfers : Cond.static mL_winnerByTransfers.1 ∈ z_all := z_all_in (i := 854) (by decide +kernel) (by decide +kernel)
theorem hiL_winnerByTransfers : Cond.initialized mL_winnerByTransfers.1.cls ∈ z_all := z_all_in (i := 47) (by decide +kernel) (by decide +kernel)
theorem hpL_winnerByTransfers : mL_winnerByTransfers.1.cls ≠ "java/lang/invoke/MethodHandle" ∧ mL_winnerByTransfers.1.cls ≠ "java/lang/invoke/VarHandle" ∧ (parseMethodDescriptor mL_winnerByTransfers.1.desc).map (fun d => d.parameters.length) = some 2 := by decide +kernel
theorem wlL_60 : Cond.methodLink "WindElectionLaw" 60 mX11_winnerByTransfers.1 ∈ z_all := z_all_in (i := 856) (by decide +kernel) (by decide +kernel)
theorem w_winnerByTransfers {M : zM} {P : zV → zS → zM → Prop} (hc : z_Call mX11_winnerByTransfers zF [(1, 1)] M P) (hP : ∀ r S' M', P r S' M' → S' = zF ∧ ((∃ v, r = (0, v)) ∨ r = (8, 4))) : z_CallH mL_winnerByTransfers zF [(1, 1), (1, 529)] M (fun r S' M' => S' = zF ∧ ∃ r1 M1, P r1 zF M1 ∧ ((∃ v, r1 = (0, v) ∧ r = (0, 0) ∧ M' = z_up M1 529 0 v) ∨ (r1 = (8, 4) ∧ r = (0, 1) ∧ M' = M1))) := by
  refine z_enterH (k := 1) rfl rfl rfl ?_
  refine zp_al1 (q := 1) dL_winnerByTransfers_0 rfl ?_
  refine zr_iconst (q := 2) dL_winnerByTransfers_1 rfl (z_in_of rfl) ?_
  refine zp_al0 (q := 3) dL_winnerByTransfers_2 rfl ?_
  refine zp_callVH0 hc mtX11_winnerByTransfers wiX11_winnerByTransfers weX11_winnerByTransfers wlL_60 (q := 6) dL_winnerByTransfers_3 rfl rfl rfl rfl rfl rfl (fun r S9 M9 h8 hP9 => ?_) (fun k S9 M9 hP9 => ?_)
  · obtain ⟨rfl, hh⟩ := hP _ _ _ hP9
    obtain ⟨v, rfl⟩ : ∃ v, r = (0, v) := by
      rcases hh with h | rfl
      · exact h
      · exact absurd rfl h8
    refine zr_i2l (q := 7) dL_winnerByTransfers_6 rfl ?_
    refine zr_last (z := 529) (n := 1) (q := 8) dL_winnerByTransfers_7 rfl k529.1 k529.2.1 k529.2.2 (by decide) (by decide) rfl ?_
    refine zr_goto (q := 14) dL_winnerByTransfers_8 (by decide) ?_
    refine zr_iconst (q := 15) dL_winnerByTransfers_14 rfl (z_in_of rfl) ?_
    refine zr_ireturn dL_winnerByTransfers_15 rfl (z_fit_i _) ?_
    exact ⟨rfl, _, _, hP9, Or.inl ⟨v, rfl, rfl, rfl⟩⟩
  · obtain ⟨rfl, hh⟩ := hP _ _ _ hP9
    rcases hh with h | hv
    · obtain ⟨v, hv⟩ := h
      exact (z_no hv rfl).elim
    · have hk := congrArg Prod.snd hv
      dsimp only at hk
      subst hk
      refine ⟨2, 12, ⟨[], [], (0, 8, 11, 52), rfl, (fun z hz => by cases hz), by decide, by decide, z_cl52, (z_hdx (k := 4) (by decide)).1, (z_hdx (k := 4) (by decide)).2, Or.inr ⟨2, dL_winnerByTransfers_11, rfl, rfl⟩, by decide, rfl⟩, ?_⟩
      refine zr_iconst (q := 13) dL_winnerByTransfers_12 rfl (z_in_of rfl) ?_
      refine zr_ireturn dL_winnerByTransfers_13 rfl (z_fit_i _) ?_
      exact ⟨rfl, _, _, hP9, Or.inr ⟨rfl, rfl, rfl⟩⟩
def mL_votesIn : zY := (yL_votesIn, cL_votesIn, 5, (some .int), (8, 134), (3, 18, [(0, 10, 13, 19), (0, 10, 17, 52)], fun _ _ => True))
theorem hyL_votesIn : Cond.codeWith mL_votesIn.1 mL_votesIn.2.1 mL_votesIn.2.2.1 mL_votesIn.2.2.2.1 mL_votesIn.2.2.2.2.2.2.2.1 ∈ z_all := z_all_in (i := 862) (by decide +kernel) (by decide +kernel)
theorem hsL_votesIn : Cond.static mL_votesIn.1 ∈ z_all := z_all_in (i := 861) (by decide +kernel) (by decide +kernel)
theorem hiL_votesIn : Cond.initialized mL_votesIn.1.cls ∈ z_all := z_all_in (i := 47) (by decide +kernel) (by decide +kernel)
theorem hpL_votesIn : mL_votesIn.1.cls ≠ "java/lang/invoke/MethodHandle" ∧ mL_votesIn.1.cls ≠ "java/lang/invoke/VarHandle" ∧ (parseMethodDescriptor mL_votesIn.1.desc).map (fun d => d.parameters.length) = some 4 := by decide +kernel
theorem wlL_63 : Cond.methodLink "WindElectionLaw" 63 mX11_votesIn.1 ∈ z_all := z_all_in (i := 863) (by decide +kernel) (by decide +kernel)
theorem w_votesIn {M : zM} {P : zV → zS → zM → Prop} {p0 p1 : Int} (hc : z_Call mX11_votesIn zF [(1, 1), (0, p0), (0, p1)] M P) (hP : ∀ r S' M', P r S' M' → S' = zF ∧ ((∃ v, r = (0, v)) ∨ r = (8, 0) ∨ r = (8, 4))) : z_CallH mL_votesIn zF [(1, 1), (0, p0), (0, p1), (1, 529)] M (fun r S' M' => S' = zF ∧ ∃ r1 M1, P r1 zF M1 ∧ ((∃ v, r1 = (0, v) ∧ r = (0, 0) ∧ M' = z_up M1 529 0 v) ∨ (r1 = (8, 0) ∧ r = (0, 1) ∧ M' = M1) ∨ (r1 = (8, 4) ∧ r = (0, 2) ∧ M' = M1))) := by
  refine z_enterH (k := 1) rfl rfl rfl ?_
  refine zp_al3 (q := 1) dL_votesIn_0 rfl ?_
  refine zr_iconst (q := 2) dL_votesIn_1 rfl (z_in_of rfl) ?_
  refine zp_al0 (q := 3) dL_votesIn_2 rfl ?_
  refine zp_il1 (q := 4) dL_votesIn_3 rfl ?_
  refine zp_il2 (q := 5) dL_votesIn_4 rfl ?_
  refine zp_callVH2 hc mtX11_votesIn wiX11_votesIn weX11_votesIn wlL_63 (q := 8) dL_votesIn_5 rfl rfl rfl rfl rfl rfl (fun r S9 M9 h8 hP9 => ?_) (fun k S9 M9 hP9 => ?_)
  · obtain ⟨rfl, hh⟩ := hP _ _ _ hP9
    obtain ⟨v, rfl⟩ : ∃ v, r = (0, v) := by
      rcases hh with h | rfl | rfl
      · exact h
      · exact absurd rfl h8
      · exact absurd rfl h8
    refine zr_i2l (q := 9) dL_votesIn_8 rfl ?_
    refine zr_last (z := 529) (n := 1) (q := 10) dL_votesIn_9 rfl k529.1 k529.2.1 k529.2.2 (by decide) (by decide) rfl ?_
    refine zr_goto (q := 21) dL_votesIn_10 (by decide) ?_
    refine zr_iconst (q := 22) dL_votesIn_21 rfl (z_in_of rfl) ?_
    refine zr_ireturn dL_votesIn_22 rfl (z_fit_i _) ?_
    exact ⟨rfl, _, _, hP9, Or.inl ⟨v, rfl, rfl, rfl⟩⟩
  · obtain ⟨rfl, hh⟩ := hP _ _ _ hP9
    rcases hh with h | hv | hv
    · obtain ⟨v, hv⟩ := h
      exact (z_no hv rfl).elim
    · have hk := congrArg Prod.snd hv
      dsimp only at hk
      subst hk
      refine ⟨4, 15, ⟨[], [(0, 10, 17, 52)], (0, 10, 13, 19), rfl, (fun z hz => by cases hz), by decide, by decide, z_cl19, (z_hdx (k := 0) (by decide)).1, (z_hdx (k := 0) (by decide)).2, Or.inl ⟨dL_votesIn_13, rfl⟩, by decide, rfl⟩, ?_⟩
      refine zr_iconst (q := 16) dL_votesIn_15 rfl (z_in_of rfl) ?_
      refine zr_ireturn dL_votesIn_16 rfl (z_fit_i _) ?_
      exact ⟨rfl, _, _, hP9, Or.inr (Or.inl ⟨rfl, rfl, rfl⟩)⟩
    · have hk := congrArg Prod.snd hv
      dsimp only at hk
      subst hk
      refine ⟨4, 19, ⟨[(0, 10, 13, 19)], [], (0, 10, 17, 52), rfl, (fun z hz => by
            simp only [List.mem_cons, List.not_mem_nil, or_false] at hz
            rcases hz with rfl
            · exact ⟨by decide, _, (z_hdx (k := 0) (by decide)).2, by decide, z_cl19⟩), by decide, by decide, z_cl52, (z_hdx (k := 4) (by decide)).1, (z_hdx (k := 4) (by decide)).2, Or.inl ⟨dL_votesIn_17, rfl⟩, by decide, rfl⟩, ?_⟩
      refine zr_iconst (q := 20) dL_votesIn_19 rfl (z_in_of rfl) ?_
      refine zr_ireturn dL_votesIn_20 rfl (z_fit_i _) ?_
      exact ⟨rfl, _, _, hP9, Or.inr (Or.inr (⟨rfl, rfl, rfl⟩))⟩
def mL_exhaustedIn : zY := (yL_exhaustedIn, cL_exhaustedIn, 4, (some .int), (8, 132), (1, 6, [(0, 9, 12, 52)], fun _ _ => True))
theorem hyL_exhaustedIn : Cond.codeWith mL_exhaustedIn.1 mL_exhaustedIn.2.1 mL_exhaustedIn.2.2.1 mL_exhaustedIn.2.2.2.1 mL_exhaustedIn.2.2.2.2.2.2.2.1 ∈ z_all := z_all_in (i := 876) (by decide +kernel) (by decide +kernel)
theorem hsL_exhaustedIn : Cond.static mL_exhaustedIn.1 ∈ z_all := z_all_in (i := 875) (by decide +kernel) (by decide +kernel)
theorem hiL_exhaustedIn : Cond.initialized mL_exhaustedIn.1.cls ∈ z_all := z_all_in (i := 47) (by decide +kernel) (by decide +kernel)
theorem hpL_exhaustedIn : mL_exhaustedIn.1.cls ≠ "java/lang/invoke/MethodHandle" ∧ mL_exhaustedIn.1.cls ≠ "java/lang/invoke/VarHandle" ∧ (parseMethodDescriptor mL_exhaustedIn.1.desc).map (fun d => d.parameters.length) = some 3 := by decide +kernel
theorem wlL_66 : Cond.methodLink "WindElectionLaw" 66 mX11_exhaustedIn.1 ∈ z_all := z_all_in (i := 877) (by decide +kernel) (by decide +kernel)
theorem w_exhaustedIn {M : zM} {P : zV → zS → zM → Prop} {p0 : Int} (hc : z_Call mX11_exhaustedIn zF [(1, 1), (0, p0)] M P) (hP : ∀ r S' M', P r S' M' → S' = zF ∧ ((∃ v, r = (0, v)) ∨ r = (8, 4))) : z_CallH mL_exhaustedIn zF [(1, 1), (0, p0), (1, 529)] M (fun r S' M' => S' = zF ∧ ∃ r1 M1, P r1 zF M1 ∧ ((∃ v, r1 = (0, v) ∧ r = (0, 0) ∧ M' = z_up M1 529 0 v) ∨ (r1 = (8, 4) ∧ r = (0, 1) ∧ M' = M1))) := by
  refine z_enterH (k := 1) rfl rfl rfl ?_
  refine zp_al2 (q := 1) dL_exhaustedIn_0 rfl ?_
  refine zr_iconst (q := 2) dL_exhaustedIn_1 rfl (z_in_of rfl) ?_
  refine zp_al0 (q := 3) dL_exhaustedIn_2 rfl ?_
  refine zp_il1 (q := 4) dL_exhaustedIn_3 rfl ?_
  refine zp_callVH1 hc mtX11_exhaustedIn wiX11_exhaustedIn weX11_exhaustedIn wlL_66 (q := 7) dL_exhaustedIn_4 rfl rfl rfl rfl rfl rfl (fun r S9 M9 h8 hP9 => ?_) (fun k S9 M9 hP9 => ?_)
  · obtain ⟨rfl, hh⟩ := hP _ _ _ hP9
    obtain ⟨v, rfl⟩ : ∃ v, r = (0, v) := by
      rcases hh with h | rfl
      · exact h
      · exact absurd rfl h8
    refine zr_i2l (q := 8) dL_exhaustedIn_7 rfl ?_
    refine zr_last (z := 529) (n := 1) (q := 9) dL_exhaustedIn_8 rfl k529.1 k529.2.1 k529.2.2 (by decide) (by decide) rfl ?_
    refine zr_goto (q := 15) dL_exhaustedIn_9 (by decide) ?_
    refine zr_iconst (q := 16) dL_exhaustedIn_15 rfl (z_in_of rfl) ?_
    refine zr_ireturn dL_exhaustedIn_16 rfl (z_fit_i _) ?_
    exact ⟨rfl, _, _, hP9, Or.inl ⟨v, rfl, rfl, rfl⟩⟩
  · obtain ⟨rfl, hh⟩ := hP _ _ _ hP9
    rcases hh with h | hv
    · obtain ⟨v, hv⟩ := h
      exact (z_no hv rfl).elim
    · have hk := congrArg Prod.snd hv
      dsimp only at hk
      subst hk
      refine ⟨3, 13, ⟨[], [], (0, 9, 12, 52), rfl, (fun z hz => by cases hz), by decide, by decide, z_cl52, (z_hdx (k := 4) (by decide)).1, (z_hdx (k := 4) (by decide)).2, Or.inr ⟨3, dL_exhaustedIn_12, rfl, rfl⟩, by decide, rfl⟩, ?_⟩
      refine zr_iconst (q := 14) dL_exhaustedIn_13 rfl (z_in_of rfl) ?_
      refine zr_ireturn dL_exhaustedIn_14 rfl (z_fit_i _) ?_
      exact ⟨rfl, _, _, hP9, Or.inr ⟨rfl, rfl, rfl⟩⟩
def mL_eliminatedIn : zY := (yL_eliminatedIn, cL_eliminatedIn, 4, (some .int), (8, 132), (2, 12, [(0, 9, 12, 52)], fun _ _ => True))
theorem hyL_eliminatedIn : Cond.codeWith mL_eliminatedIn.1 mL_eliminatedIn.2.1 mL_eliminatedIn.2.2.1 mL_eliminatedIn.2.2.2.1 mL_eliminatedIn.2.2.2.2.2.2.2.1 ∈ z_all := z_all_in (i := 883) (by decide +kernel) (by decide +kernel)
theorem hsL_eliminatedIn : Cond.static mL_eliminatedIn.1 ∈ z_all := z_all_in (i := 882) (by decide +kernel) (by decide +kernel)
theorem hiL_eliminatedIn : Cond.initialized mL_eliminatedIn.1.cls ∈ z_all := z_all_in (i := 47) (by decide +kernel) (by decide +kernel)
theorem hpL_eliminatedIn : mL_eliminatedIn.1.cls ≠ "java/lang/invoke/MethodHandle" ∧ mL_eliminatedIn.1.cls ≠ "java/lang/invoke/VarHandle" ∧ (parseMethodDescriptor mL_eliminatedIn.1.desc).map (fun d => d.parameters.length) = some 3 := by decide +kernel
theorem wlL_69 : Cond.methodLink "WindElectionLaw" 69 mX11_eliminatedIn.1 ∈ z_all := z_all_in (i := 884) (by decide +kernel) (by decide +kernel)
theorem w_eliminatedIn {M : zM} {P : zV → zS → zM → Prop} {p0 : Int} (hc : z_Call mX11_eliminatedIn zF [(1, 1), (0, p0)] M P) (hP : ∀ r S' M', P r S' M' → S' = zF ∧ ((∃ v, r = (0, v)) ∨ r = (8, 4))) : z_CallH mL_eliminatedIn zF [(1, 1), (0, p0), (1, 529)] M (fun r S' M' => S' = zF ∧ ∃ r1 M1, P r1 zF M1 ∧ ((∃ v, r1 = (0, v) ∧ r = (0, 0) ∧ M' = z_up M1 529 0 v) ∨ (r1 = (8, 4) ∧ r = (0, 1) ∧ M' = M1))) := by
  refine z_enterH (k := 1) rfl rfl rfl ?_
  refine zp_al2 (q := 1) dL_eliminatedIn_0 rfl ?_
  refine zr_iconst (q := 2) dL_eliminatedIn_1 rfl (z_in_of rfl) ?_
  refine zp_al0 (q := 3) dL_eliminatedIn_2 rfl ?_
  refine zp_il1 (q := 4) dL_eliminatedIn_3 rfl ?_
  refine zp_callVH1 hc mtX11_eliminatedIn wiX11_eliminatedIn weX11_eliminatedIn wlL_69 (q := 7) dL_eliminatedIn_4 rfl rfl rfl rfl rfl rfl (fun r S9 M9 h8 hP9 => ?_) (fun k S9 M9 hP9 => ?_)
  · obtain ⟨rfl, hh⟩ := hP _ _ _ hP9
    obtain ⟨v, rfl⟩ : ∃ v, r = (0, v) := by
      rcases hh with h | rfl
      · exact h
      · exact absurd rfl h8
    refine zr_i2l (q := 8) dL_eliminatedIn_7 rfl ?_
    refine zr_last (z := 529) (n := 1) (q := 9) dL_eliminatedIn_8 rfl k529.1 k529.2.1 k529.2.2 (by decide) (by decide) rfl ?_
    refine zr_goto (q := 15) dL_eliminatedIn_9 (by decide) ?_
    refine zr_iconst (q := 16) dL_eliminatedIn_15 rfl (z_in_of rfl) ?_
    refine zr_ireturn dL_eliminatedIn_16 rfl (z_fit_i _) ?_
    exact ⟨rfl, _, _, hP9, Or.inl ⟨v, rfl, rfl, rfl⟩⟩
  · obtain ⟨rfl, hh⟩ := hP _ _ _ hP9
    rcases hh with h | hv
    · obtain ⟨v, hv⟩ := h
      exact (z_no hv rfl).elim
    · have hk := congrArg Prod.snd hv
      dsimp only at hk
      subst hk
      refine ⟨3, 13, ⟨[], [], (0, 9, 12, 52), rfl, (fun z hz => by cases hz), by decide, by decide, z_cl52, (z_hdx (k := 4) (by decide)).1, (z_hdx (k := 4) (by decide)).2, Or.inr ⟨3, dL_eliminatedIn_12, rfl, rfl⟩, by decide, rfl⟩, ?_⟩
      refine zr_iconst (q := 14) dL_eliminatedIn_13 rfl (z_in_of rfl) ?_
      refine zr_ireturn dL_eliminatedIn_14 rfl (z_fit_i _) ?_
      exact ⟨rfl, _, _, hP9, Or.inr ⟨rfl, rfl, rfl⟩⟩
def mL_isTieIn : zY := (yL_isTieIn, cL_isTieIn, 4, (some .int), (8, 132), (1, 6, [(0, 16, 19, 52)], fun _ _ => True))
theorem hyL_isTieIn : Cond.codeWith mL_isTieIn.1 mL_isTieIn.2.1 mL_isTieIn.2.2.1 mL_isTieIn.2.2.2.1 mL_isTieIn.2.2.2.2.2.2.2.1 ∈ z_all := z_all_in (i := 890) (by decide +kernel) (by decide +kernel)
theorem hsL_isTieIn : Cond.static mL_isTieIn.1 ∈ z_all := z_all_in (i := 889) (by decide +kernel) (by decide +kernel)
theorem hiL_isTieIn : Cond.initialized mL_isTieIn.1.cls ∈ z_all := z_all_in (i := 47) (by decide +kernel) (by decide +kernel)
theorem hpL_isTieIn : mL_isTieIn.1.cls ≠ "java/lang/invoke/MethodHandle" ∧ mL_isTieIn.1.cls ≠ "java/lang/invoke/VarHandle" ∧ (parseMethodDescriptor mL_isTieIn.1.desc).map (fun d => d.parameters.length) = some 3 := by decide +kernel
theorem wlL_72 : Cond.methodLink "WindElectionLaw" 72 mX11_isTieIn.1 ∈ z_all := z_all_in (i := 891) (by decide +kernel) (by decide +kernel)
theorem w_isTieIn {M : zM} {P : zV → zS → zM → Prop} {p0 : Int} (hc : z_Call mX11_isTieIn zF [(1, 1), (0, p0)] M P) (hP : ∀ r S' M', P r S' M' → S' = zF ∧ ((∃ v, r = (0, v) ∧ (v = 0 ∨ v = 1)) ∨ r = (8, 4))) : z_CallH mL_isTieIn zF [(1, 1), (0, p0), (1, 529)] M (fun r S' M' => S' = zF ∧ ∃ r1 M1, P r1 zF M1 ∧ ((∃ v, r1 = (0, v) ∧ r = (0, 0) ∧ M' = z_up M1 529 0 v) ∨ (r1 = (8, 4) ∧ r = (0, 1) ∧ M' = M1))) := by
  refine z_enterH (k := 1) rfl rfl rfl ?_
  refine zp_al2 (q := 1) dL_isTieIn_0 rfl ?_
  refine zr_iconst (q := 2) dL_isTieIn_1 rfl (z_in_of rfl) ?_
  refine zp_al0 (q := 3) dL_isTieIn_2 rfl ?_
  refine zp_il1 (q := 4) dL_isTieIn_3 rfl ?_
  refine zp_callVH1 hc mtX11_isTieIn wiX11_isTieIn weX11_isTieIn wlL_72 (q := 7) dL_isTieIn_4 rfl rfl rfl rfl rfl rfl (fun r S9 M9 h8 hP9 => ?_) (fun k S9 M9 hP9 => ?_)
  · obtain ⟨rfl, hh⟩ := hP _ _ _ hP9
    obtain ⟨v, rfl, hv⟩ : ∃ v, r = (0, v) ∧ (v = 0 ∨ v = 1) := by
      rcases hh with h | rfl
      · exact h
      · exact absurd rfl h8
    refine zr_if_eq (q := 14) (q2 := 10) dL_isTieIn_7 (by decide) rfl (fun h9 => ?_) (fun h9 => ?_)
    · refine zr_lconst (v := 0) (q := 15) dL_isTieIn_14 rfl (z_in_of rfl) rfl ?_
      refine zr_last (z := 529) (n := 1) (q := 16) dL_isTieIn_15 rfl k529.1 k529.2.1 k529.2.2 (by decide) (by decide) rfl ?_
      refine zr_goto (q := 22) dL_isTieIn_16 (by decide) ?_
      refine zr_iconst (q := 23) dL_isTieIn_22 rfl (z_in_of rfl) ?_
      refine zr_ireturn dL_isTieIn_23 rfl (z_fit_i _) ?_
      exact ⟨rfl, _, _, hP9, Or.inl ⟨0, by rw [h9], rfl, rfl⟩⟩
    · refine zr_lconst (v := 1) (q := 11) dL_isTieIn_10 rfl (z_in_of rfl) rfl ?_
      refine zr_goto (q := 15) dL_isTieIn_11 (by decide) ?_
      refine zr_last (z := 529) (n := 1) (q := 16) dL_isTieIn_15 rfl k529.1 k529.2.1 k529.2.2 (by decide) (by decide) rfl ?_
      refine zr_goto (q := 22) dL_isTieIn_16 (by decide) ?_
      refine zr_iconst (q := 23) dL_isTieIn_22 rfl (z_in_of rfl) ?_
      refine zr_ireturn dL_isTieIn_23 rfl (z_fit_i _) ?_
      exact ⟨rfl, _, _, hP9, Or.inl ⟨1, by rw [hv.resolve_left h9], rfl, rfl⟩⟩
  · obtain ⟨rfl, hh⟩ := hP _ _ _ hP9
    rcases hh with h | hv
    · obtain ⟨v, hv, _⟩ := h
      exact (z_no hv rfl).elim
    · have hk := congrArg Prod.snd hv
      dsimp only at hk
      subst hk
      refine ⟨3, 20, ⟨[], [], (0, 16, 19, 52), rfl, (fun z hz => by cases hz), by decide, by decide, z_cl52, (z_hdx (k := 4) (by decide)).1, (z_hdx (k := 4) (by decide)).2, Or.inr ⟨3, dL_isTieIn_19, rfl, rfl⟩, by decide, rfl⟩, ?_⟩
      refine zr_iconst (q := 21) dL_isTieIn_20 rfl (z_in_of rfl) ?_
      refine zr_ireturn dL_isTieIn_21 rfl (z_fit_i _) ?_
      exact ⟨rfl, _, _, hP9, Or.inr ⟨rfl, rfl, rfl⟩⟩
def mL_roundOfElimination : zY := (yL_roundOfElimination, cL_roundOfElimination, 4, (some .int), (8, 132), (2, 12, [(0, 9, 12, 19), (0, 9, 15, 52)], fun _ _ => True))
theorem hyL_roundOfElimination : Cond.codeWith mL_roundOfElimination.1 mL_roundOfElimination.2.1 mL_roundOfElimination.2.2.1 mL_roundOfElimination.2.2.2.1 mL_roundOfElimination.2.2.2.2.2.2.2.1 ∈ z_all := z_all_in (i := 897) (by decide +kernel) (by decide +kernel)
theorem hsL_roundOfElimination : Cond.static mL_roundOfElimination.1 ∈ z_all := z_all_in (i := 896) (by decide +kernel) (by decide +kernel)
theorem hiL_roundOfElimination : Cond.initialized mL_roundOfElimination.1.cls ∈ z_all := z_all_in (i := 47) (by decide +kernel) (by decide +kernel)
theorem hpL_roundOfElimination : mL_roundOfElimination.1.cls ≠ "java/lang/invoke/MethodHandle" ∧ mL_roundOfElimination.1.cls ≠ "java/lang/invoke/VarHandle" ∧ (parseMethodDescriptor mL_roundOfElimination.1.desc).map (fun d => d.parameters.length) = some 3 := by decide +kernel
theorem wlL_75 : Cond.methodLink "WindElectionLaw" 75 mX11_roundOfElimination.1 ∈ z_all := z_all_in (i := 898) (by decide +kernel) (by decide +kernel)
theorem w_roundOfElimination {M : zM} {P : zV → zS → zM → Prop} {p0 : Int} (hc : z_Call mX11_roundOfElimination zF [(1, 1), (0, p0)] M P) (hP : ∀ r S' M', P r S' M' → S' = zF ∧ ((∃ v, r = (0, v)) ∨ r = (8, 0) ∨ r = (8, 4))) : z_CallH mL_roundOfElimination zF [(1, 1), (0, p0), (1, 529)] M (fun r S' M' => S' = zF ∧ ∃ r1 M1, P r1 zF M1 ∧ ((∃ v, r1 = (0, v) ∧ r = (0, 0) ∧ M' = z_up M1 529 0 v) ∨ (r1 = (8, 0) ∧ r = (0, 1) ∧ M' = M1) ∨ (r1 = (8, 4) ∧ r = (0, 2) ∧ M' = M1))) := by
  refine z_enterH (k := 1) rfl rfl rfl ?_
  refine zp_al2 (q := 1) dL_roundOfElimination_0 rfl ?_
  refine zr_iconst (q := 2) dL_roundOfElimination_1 rfl (z_in_of rfl) ?_
  refine zp_al0 (q := 3) dL_roundOfElimination_2 rfl ?_
  refine zp_il1 (q := 4) dL_roundOfElimination_3 rfl ?_
  refine zp_callVH1 hc mtX11_roundOfElimination wiX11_roundOfElimination weX11_roundOfElimination wlL_75 (q := 7) dL_roundOfElimination_4 rfl rfl rfl rfl rfl rfl (fun r S9 M9 h8 hP9 => ?_) (fun k S9 M9 hP9 => ?_)
  · obtain ⟨rfl, hh⟩ := hP _ _ _ hP9
    obtain ⟨v, rfl⟩ : ∃ v, r = (0, v) := by
      rcases hh with h | rfl | rfl
      · exact h
      · exact absurd rfl h8
      · exact absurd rfl h8
    refine zr_i2l (q := 8) dL_roundOfElimination_7 rfl ?_
    refine zr_last (z := 529) (n := 1) (q := 9) dL_roundOfElimination_8 rfl k529.1 k529.2.1 k529.2.2 (by decide) (by decide) rfl ?_
    refine zr_goto (q := 18) dL_roundOfElimination_9 (by decide) ?_
    refine zr_iconst (q := 19) dL_roundOfElimination_18 rfl (z_in_of rfl) ?_
    refine zr_ireturn dL_roundOfElimination_19 rfl (z_fit_i _) ?_
    exact ⟨rfl, _, _, hP9, Or.inl ⟨v, rfl, rfl, rfl⟩⟩
  · obtain ⟨rfl, hh⟩ := hP _ _ _ hP9
    rcases hh with h | hv | hv
    · obtain ⟨v, hv⟩ := h
      exact (z_no hv rfl).elim
    · have hk := congrArg Prod.snd hv
      dsimp only at hk
      subst hk
      refine ⟨3, 13, ⟨[], [(0, 9, 15, 52)], (0, 9, 12, 19), rfl, (fun z hz => by cases hz), by decide, by decide, z_cl19, (z_hdx (k := 0) (by decide)).1, (z_hdx (k := 0) (by decide)).2, Or.inr ⟨3, dL_roundOfElimination_12, rfl, rfl⟩, by decide, rfl⟩, ?_⟩
      refine zr_iconst (q := 14) dL_roundOfElimination_13 rfl (z_in_of rfl) ?_
      refine zr_ireturn dL_roundOfElimination_14 rfl (z_fit_i _) ?_
      exact ⟨rfl, _, _, hP9, Or.inr (Or.inl ⟨rfl, rfl, rfl⟩)⟩
    · have hk := congrArg Prod.snd hv
      dsimp only at hk
      subst hk
      refine ⟨3, 16, ⟨[(0, 9, 12, 19)], [], (0, 9, 15, 52), rfl, (fun z hz => by
            simp only [List.mem_cons, List.not_mem_nil, or_false] at hz
            rcases hz with rfl
            · exact ⟨by decide, _, (z_hdx (k := 0) (by decide)).2, by decide, z_cl19⟩), by decide, by decide, z_cl52, (z_hdx (k := 4) (by decide)).1, (z_hdx (k := 4) (by decide)).2, Or.inr ⟨3, dL_roundOfElimination_15, rfl, rfl⟩, by decide, rfl⟩, ?_⟩
      refine zr_iconst (q := 17) dL_roundOfElimination_16 rfl (z_in_of rfl) ?_
      refine zr_ireturn dL_roundOfElimination_17 rfl (z_fit_i _) ?_
      exact ⟨rfl, _, _, hP9, Or.inr (Or.inr (⟨rfl, rfl, rfl⟩))⟩
def mL_winnerShare : zY := (yL_winnerShare, cL_winnerShare, 3, (some .int), (7, 112), (1, 6, [(0, 8, 11, 52), (0, 8, 14, 82)], fun _ _ => True))
theorem hyL_winnerShare : Cond.codeWith mL_winnerShare.1 mL_winnerShare.2.1 mL_winnerShare.2.2.1 mL_winnerShare.2.2.2.1 mL_winnerShare.2.2.2.2.2.2.2.1 ∈ z_all := z_all_in (i := 908) (by decide +kernel) (by decide +kernel)
theorem hsL_winnerShare : Cond.static mL_winnerShare.1 ∈ z_all := z_all_in (i := 907) (by decide +kernel) (by decide +kernel)
theorem hiL_winnerShare : Cond.initialized mL_winnerShare.1.cls ∈ z_all := z_all_in (i := 47) (by decide +kernel) (by decide +kernel)
theorem hpL_winnerShare : mL_winnerShare.1.cls ≠ "java/lang/invoke/MethodHandle" ∧ mL_winnerShare.1.cls ≠ "java/lang/invoke/VarHandle" ∧ (parseMethodDescriptor mL_winnerShare.1.desc).map (fun d => d.parameters.length) = some 2 := by decide +kernel
theorem wlL_78 : Cond.methodLink "WindElectionLaw" 78 mX11_winnerShare.1 ∈ z_all := z_all_in (i := 923) (by decide +kernel) (by decide +kernel)
theorem w_winnerShare {M : zM} {P : zV → zS → zM → Prop} (hc : z_Call mX11_winnerShare zF [(1, 1)] M P) (hP : ∀ r S' M', P r S' M' → S' = zF ∧ ((∃ x y, r = (3, zfD x y) ∧ (0 ≤ x ∧ x < 2048) ∧ (0 < y ∧ y < 2048)) ∨ r = (8, 4) ∨ r = (8, 3))) : z_CallH mL_winnerShare zF [(1, 1), (1, 530)] M (fun r S' M' => S' = zF ∧ ∃ r1 M1, P r1 zF M1 ∧ ((∃ x y, r1 = (3, zfD x y) ∧ r = (0, 0) ∧ M' = z_up M1 530 0 (zfE x y)) ∨ (r1 = (8, 4) ∧ r = (0, 1) ∧ M' = M1) ∨ (r1 = (8, 3) ∧ r = (0, 2) ∧ M' = M1))) := by
  refine z_enterH (k := 1) rfl rfl rfl ?_
  refine zp_al1 (q := 1) dL_winnerShare_0 rfl ?_
  refine zr_iconst (q := 2) dL_winnerShare_1 rfl (z_in_of rfl) ?_
  refine zp_al0 (q := 3) dL_winnerShare_2 rfl ?_
  refine zp_callVH0 hc mtX11_winnerShare wiX11_winnerShare weX11_winnerShare wlL_78 (q := 6) dL_winnerShare_3 rfl rfl rfl rfl rfl rfl (fun r S9 M9 h8 hP9 => ?_) (fun k S9 M9 hP9 => ?_)
  · obtain ⟨rfl, hh⟩ := hP _ _ _ hP9
    obtain ⟨x9, y9, rfl, hx9, hy9⟩ : ∃ x y, r = (3, zfD x y) ∧ (0 ≤ x ∧ x < 2048) ∧ (0 < y ∧ y < 2048) := by
      rcases hh with h | rfl | rfl
      · exact h
      · exact absurd rfl h8
      · exact absurd rfl h8
    refine zr_f2d (q := 7) hx9.1 hx9.2 hy9.1 hy9.2 dL_winnerShare_6 rfl ?_
    refine zr_dast (z := 530) (n := 1) (q := 8) dL_winnerShare_7 rfl k530.1 k530.2.1 k530.2.2 (by decide) (by decide) rfl ?_
    refine zr_goto (q := 17) dL_winnerShare_8 (by decide) ?_
    refine zr_iconst (q := 18) dL_winnerShare_17 rfl (z_in_of rfl) ?_
    refine zr_ireturn dL_winnerShare_18 rfl (z_fit_i _) ?_
    exact ⟨rfl, _, _, hP9, Or.inl ⟨x9, y9, rfl, rfl, rfl⟩⟩
  · obtain ⟨rfl, hh⟩ := hP _ _ _ hP9
    rcases hh with h | hv | hv
    · obtain ⟨x9, y9, hv, _⟩ := h
      exact (z_no hv rfl).elim
    · have hk := congrArg Prod.snd hv
      dsimp only at hk
      subst hk
      refine ⟨2, 12, ⟨[], [(0, 8, 14, 82)], (0, 8, 11, 52), rfl, (fun z hz => by cases hz), by decide, by decide, z_cl52, (z_hdx (k := 4) (by decide)).1, (z_hdx (k := 4) (by decide)).2, Or.inr ⟨2, dL_winnerShare_11, rfl, rfl⟩, by decide, rfl⟩, ?_⟩
      refine zr_iconst (q := 13) dL_winnerShare_12 rfl (z_in_of rfl) ?_
      refine zr_ireturn dL_winnerShare_13 rfl (z_fit_i _) ?_
      exact ⟨rfl, _, _, hP9, Or.inr (Or.inl ⟨rfl, rfl, rfl⟩)⟩
    · have hk := congrArg Prod.snd hv
      dsimp only at hk
      subst hk
      refine ⟨2, 15, ⟨[(0, 8, 11, 52)], [], (0, 8, 14, 82), rfl, (fun z hz => by
            simp only [List.mem_cons, List.not_mem_nil, or_false] at hz
            rcases hz with rfl
            · exact ⟨by decide, _, (z_hdx (k := 4) (by decide)).2, by decide, z_cl52⟩), by decide, by decide, z_cl82, (z_hdx (k := 3) (by decide)).1, (z_hdx (k := 3) (by decide)).2, Or.inr ⟨2, dL_winnerShare_14, rfl, rfl⟩, by decide, rfl⟩, ?_⟩
      refine zr_iconst (q := 16) dL_winnerShare_15 rfl (z_in_of rfl) ?_
      refine zr_ireturn dL_winnerShare_16 rfl (z_fit_i _) ?_
      exact ⟨rfl, _, _, hP9, Or.inr (Or.inr (⟨rfl, rfl, rfl⟩))⟩
def mL_preference : zY := (yL_preference, cL_preference, 5, (some .int), (8, 133), (2, 12, [(0, 10, 13, 19)], fun _ _ => True))
theorem hyL_preference : Cond.codeWith mL_preference.1 mL_preference.2.1 mL_preference.2.2.1 mL_preference.2.2.2.1 mL_preference.2.2.2.2.2.2.2.1 ∈ z_all := z_all_in (i := 937) (by decide +kernel) (by decide +kernel)
theorem hsL_preference : Cond.static mL_preference.1 ∈ z_all := z_all_in (i := 936) (by decide +kernel) (by decide +kernel)
theorem hiL_preference : Cond.initialized mL_preference.1.cls ∈ z_all := z_all_in (i := 47) (by decide +kernel) (by decide +kernel)
theorem hpL_preference : mL_preference.1.cls ≠ "java/lang/invoke/MethodHandle" ∧ mL_preference.1.cls ≠ "java/lang/invoke/VarHandle" ∧ (parseMethodDescriptor mL_preference.1.desc).map (fun d => d.parameters.length) = some 4 := by decide +kernel
theorem wlL_84 : Cond.methodLink "WindElectionLaw" 84 mX11_preference.1 ∈ z_all := z_all_in (i := 938) (by decide +kernel) (by decide +kernel)
theorem w_preference {M : zM} {P : zV → zS → zM → Prop} {p0 p1 : Int} (hc : z_Call mX11_preference zF [(1, 1), (0, p0), (0, p1)] M P) (hP : ∀ r S' M', P r S' M' → S' = zF ∧ ((∃ v, r = (0, v)) ∨ r = (8, 0))) : z_CallH mL_preference zF [(1, 1), (0, p0), (0, p1), (1, 529)] M (fun r S' M' => S' = zF ∧ ∃ r1 M1, P r1 zF M1 ∧ ((∃ v, r1 = (0, v) ∧ r = (0, 0) ∧ M' = z_up M1 529 0 v) ∨ (r1 = (8, 0) ∧ r = (0, 1) ∧ M' = M1))) := by
  refine z_enterH (k := 1) rfl rfl rfl ?_
  refine zp_al3 (q := 1) dL_preference_0 rfl ?_
  refine zr_iconst (q := 2) dL_preference_1 rfl (z_in_of rfl) ?_
  refine zp_al0 (q := 3) dL_preference_2 rfl ?_
  refine zp_il1 (q := 4) dL_preference_3 rfl ?_
  refine zp_il2 (q := 5) dL_preference_4 rfl ?_
  refine zp_callVH2 hc mtX11_preference wiX11_preference weX11_preference wlL_84 (q := 8) dL_preference_5 rfl rfl rfl rfl rfl rfl (fun r S9 M9 h8 hP9 => ?_) (fun k S9 M9 hP9 => ?_)
  · obtain ⟨rfl, hh⟩ := hP _ _ _ hP9
    obtain ⟨v, rfl⟩ : ∃ v, r = (0, v) := by
      rcases hh with h | rfl
      · exact h
      · exact absurd rfl h8
    refine zr_i2l (q := 9) dL_preference_8 rfl ?_
    refine zr_last (z := 529) (n := 1) (q := 10) dL_preference_9 rfl k529.1 k529.2.1 k529.2.2 (by decide) (by decide) rfl ?_
    refine zr_goto (q := 17) dL_preference_10 (by decide) ?_
    refine zr_iconst (q := 18) dL_preference_17 rfl (z_in_of rfl) ?_
    refine zr_ireturn dL_preference_18 rfl (z_fit_i _) ?_
    exact ⟨rfl, _, _, hP9, Or.inl ⟨v, rfl, rfl, rfl⟩⟩
  · obtain ⟨rfl, hh⟩ := hP _ _ _ hP9
    rcases hh with h | hv
    · obtain ⟨v, hv⟩ := h
      exact (z_no hv rfl).elim
    · have hk := congrArg Prod.snd hv
      dsimp only at hk
      subst hk
      refine ⟨4, 15, ⟨[], [], (0, 10, 13, 19), rfl, (fun z hz => by cases hz), by decide, by decide, z_cl19, (z_hdx (k := 0) (by decide)).1, (z_hdx (k := 0) (by decide)).2, Or.inl ⟨dL_preference_13, rfl⟩, by decide, rfl⟩, ?_⟩
      refine zr_iconst (q := 16) dL_preference_15 rfl (z_in_of rfl) ?_
      refine zr_ireturn dL_preference_16 rfl (z_fit_i _) ?_
      exact ⟨rfl, _, _, hP9, Or.inr ⟨rfl, rfl, rfl⟩⟩
def mL_beats : zY := (yL_beats, cL_beats, 5, (some .int), (8, 133), (2, 12, [(0, 17, 20, 19)], fun _ _ => True))
theorem hyL_beats : Cond.codeWith mL_beats.1 mL_beats.2.1 mL_beats.2.2.1 mL_beats.2.2.2.1 mL_beats.2.2.2.2.2.2.2.1 ∈ z_all := z_all_in (i := 945) (by decide +kernel) (by decide +kernel)
theorem hsL_beats : Cond.static mL_beats.1 ∈ z_all := z_all_in (i := 944) (by decide +kernel) (by decide +kernel)
theorem hiL_beats : Cond.initialized mL_beats.1.cls ∈ z_all := z_all_in (i := 47) (by decide +kernel) (by decide +kernel)
theorem hpL_beats : mL_beats.1.cls ≠ "java/lang/invoke/MethodHandle" ∧ mL_beats.1.cls ≠ "java/lang/invoke/VarHandle" ∧ (parseMethodDescriptor mL_beats.1.desc).map (fun d => d.parameters.length) = some 4 := by decide +kernel
theorem wlL_87 : Cond.methodLink "WindElectionLaw" 87 mX11_beats.1 ∈ z_all := z_all_in (i := 946) (by decide +kernel) (by decide +kernel)
theorem w_beats {M : zM} {P : zV → zS → zM → Prop} {p0 p1 : Int} (hc : z_Call mX11_beats zF [(1, 1), (0, p0), (0, p1)] M P) (hP : ∀ r S' M', P r S' M' → S' = zF ∧ ((∃ v, r = (0, v) ∧ (v = 0 ∨ v = 1)) ∨ r = (8, 0))) : z_CallH mL_beats zF [(1, 1), (0, p0), (0, p1), (1, 529)] M (fun r S' M' => S' = zF ∧ ∃ r1 M1, P r1 zF M1 ∧ ((∃ v, r1 = (0, v) ∧ r = (0, 0) ∧ M' = z_up M1 529 0 v) ∨ (r1 = (8, 0) ∧ r = (0, 1) ∧ M' = M1))) := by
  refine z_enterH (k := 1) rfl rfl rfl ?_
  refine zp_al3 (q := 1) dL_beats_0 rfl ?_
  refine zr_iconst (q := 2) dL_beats_1 rfl (z_in_of rfl) ?_
  refine zp_al0 (q := 3) dL_beats_2 rfl ?_
  refine zp_il1 (q := 4) dL_beats_3 rfl ?_
  refine zp_il2 (q := 5) dL_beats_4 rfl ?_
  refine zp_callVH2 hc mtX11_beats wiX11_beats weX11_beats wlL_87 (q := 8) dL_beats_5 rfl rfl rfl rfl rfl rfl (fun r S9 M9 h8 hP9 => ?_) (fun k S9 M9 hP9 => ?_)
  · obtain ⟨rfl, hh⟩ := hP _ _ _ hP9
    obtain ⟨v, rfl, hv⟩ : ∃ v, r = (0, v) ∧ (v = 0 ∨ v = 1) := by
      rcases hh with h | rfl
      · exact h
      · exact absurd rfl h8
    refine zr_if_eq (q := 15) (q2 := 11) dL_beats_8 (by decide) rfl (fun h9 => ?_) (fun h9 => ?_)
    · refine zr_lconst (v := 0) (q := 16) dL_beats_15 rfl (z_in_of rfl) rfl ?_
      refine zr_last (z := 529) (n := 1) (q := 17) dL_beats_16 rfl k529.1 k529.2.1 k529.2.2 (by decide) (by decide) rfl ?_
      refine zr_goto (q := 24) dL_beats_17 (by decide) ?_
      refine zr_iconst (q := 25) dL_beats_24 rfl (z_in_of rfl) ?_
      refine zr_ireturn dL_beats_25 rfl (z_fit_i _) ?_
      exact ⟨rfl, _, _, hP9, Or.inl ⟨0, by rw [h9], rfl, rfl⟩⟩
    · refine zr_lconst (v := 1) (q := 12) dL_beats_11 rfl (z_in_of rfl) rfl ?_
      refine zr_goto (q := 16) dL_beats_12 (by decide) ?_
      refine zr_last (z := 529) (n := 1) (q := 17) dL_beats_16 rfl k529.1 k529.2.1 k529.2.2 (by decide) (by decide) rfl ?_
      refine zr_goto (q := 24) dL_beats_17 (by decide) ?_
      refine zr_iconst (q := 25) dL_beats_24 rfl (z_in_of rfl) ?_
      refine zr_ireturn dL_beats_25 rfl (z_fit_i _) ?_
      exact ⟨rfl, _, _, hP9, Or.inl ⟨1, by rw [hv.resolve_left h9], rfl, rfl⟩⟩
  · obtain ⟨rfl, hh⟩ := hP _ _ _ hP9
    rcases hh with h | hv
    · obtain ⟨v, hv, _⟩ := h
      exact (z_no hv rfl).elim
    · have hk := congrArg Prod.snd hv
      dsimp only at hk
      subst hk
      refine ⟨4, 22, ⟨[], [], (0, 17, 20, 19), rfl, (fun z hz => by cases hz), by decide, by decide, z_cl19, (z_hdx (k := 0) (by decide)).1, (z_hdx (k := 0) (by decide)).2, Or.inl ⟨dL_beats_20, rfl⟩, by decide, rfl⟩, ?_⟩
      refine zr_iconst (q := 23) dL_beats_22 rfl (z_in_of rfl) ?_
      refine zr_ireturn dL_beats_23 rfl (z_fit_i _) ?_
      exact ⟨rfl, _, _, hP9, Or.inr ⟨rfl, rfl, rfl⟩⟩
def mL_victories : zY := (yL_victories, cL_victories, 4, (some .int), (8, 136), (1, 6, [(0, 9, 12, 19)], fun _ _ => True))
theorem hyL_victories : Cond.codeWith mL_victories.1 mL_victories.2.1 mL_victories.2.2.1 mL_victories.2.2.2.1 mL_victories.2.2.2.2.2.2.2.1 ∈ z_all := z_all_in (i := 953) (by decide +kernel) (by decide +kernel)
theorem hsL_victories : Cond.static mL_victories.1 ∈ z_all := z_all_in (i := 952) (by decide +kernel) (by decide +kernel)
theorem hiL_victories : Cond.initialized mL_victories.1.cls ∈ z_all := z_all_in (i := 47) (by decide +kernel) (by decide +kernel)
theorem hpL_victories : mL_victories.1.cls ≠ "java/lang/invoke/MethodHandle" ∧ mL_victories.1.cls ≠ "java/lang/invoke/VarHandle" ∧ (parseMethodDescriptor mL_victories.1.desc).map (fun d => d.parameters.length) = some 3 := by decide +kernel
theorem wlL_91 : Cond.methodLink "WindElectionLaw" 91 mX11_victories.1 ∈ z_all := z_all_in (i := 954) (by decide +kernel) (by decide +kernel)
theorem w_victories {M : zM} {P : zV → zS → zM → Prop} {p0 : Int} (hc : z_Call mX11_victories zF [(1, 1), (0, p0)] M P) (hP : ∀ r S' M', P r S' M' → S' = zF ∧ ((∃ v, r = (0, v)) ∨ r = (8, 0))) : z_CallH mL_victories zF [(1, 1), (0, p0), (1, 529)] M (fun r S' M' => S' = zF ∧ ∃ r1 M1, P r1 zF M1 ∧ ((∃ v, r1 = (0, v) ∧ r = (0, 0) ∧ M' = z_up M1 529 0 v) ∨ (r1 = (8, 0) ∧ r = (0, 1) ∧ M' = M1))) := by
  refine z_enterH (k := 1) rfl rfl rfl ?_
  refine zp_al2 (q := 1) dL_victories_0 rfl ?_
  refine zr_iconst (q := 2) dL_victories_1 rfl (z_in_of rfl) ?_
  refine zp_al0 (q := 3) dL_victories_2 rfl ?_
  refine zp_il1 (q := 4) dL_victories_3 rfl ?_
  refine zp_callVH1 hc mtX11_victories wiX11_victories weX11_victories wlL_91 (q := 7) dL_victories_4 rfl rfl rfl rfl rfl rfl (fun r S9 M9 h8 hP9 => ?_) (fun k S9 M9 hP9 => ?_)
  · obtain ⟨rfl, hh⟩ := hP _ _ _ hP9
    obtain ⟨v, rfl⟩ : ∃ v, r = (0, v) := by
      rcases hh with h | rfl
      · exact h
      · exact absurd rfl h8
    refine zr_i2l (q := 8) dL_victories_7 rfl ?_
    refine zr_last (z := 529) (n := 1) (q := 9) dL_victories_8 rfl k529.1 k529.2.1 k529.2.2 (by decide) (by decide) rfl ?_
    refine zr_goto (q := 15) dL_victories_9 (by decide) ?_
    refine zr_iconst (q := 16) dL_victories_15 rfl (z_in_of rfl) ?_
    refine zr_ireturn dL_victories_16 rfl (z_fit_i _) ?_
    exact ⟨rfl, _, _, hP9, Or.inl ⟨v, rfl, rfl, rfl⟩⟩
  · obtain ⟨rfl, hh⟩ := hP _ _ _ hP9
    rcases hh with h | hv
    · obtain ⟨v, hv⟩ := h
      exact (z_no hv rfl).elim
    · have hk := congrArg Prod.snd hv
      dsimp only at hk
      subst hk
      refine ⟨3, 13, ⟨[], [], (0, 9, 12, 19), rfl, (fun z hz => by cases hz), by decide, by decide, z_cl19, (z_hdx (k := 0) (by decide)).1, (z_hdx (k := 0) (by decide)).2, Or.inr ⟨3, dL_victories_12, rfl, rfl⟩, by decide, rfl⟩, ?_⟩
      refine zr_iconst (q := 14) dL_victories_13 rfl (z_in_of rfl) ?_
      refine zr_ireturn dL_victories_14 rfl (z_fit_i _) ?_
      exact ⟨rfl, _, _, hP9, Or.inr ⟨rfl, rfl, rfl⟩⟩
def mL_championOfPairs : zY := (yL_championOfPairs, cL_championOfPairs, 3, (some .int), (8, 157), (1, 6, [(0, 8, 11, 52)], fun _ _ => True))
theorem hyL_championOfPairs : Cond.codeWith mL_championOfPairs.1 mL_championOfPairs.2.1 mL_championOfPairs.2.2.1 mL_championOfPairs.2.2.2.1 mL_championOfPairs.2.2.2.2.2.2.2.1 ∈ z_all := z_all_in (i := 961) (by decide +kernel) (by decide +kernel)
theorem hsL_championOfPairs : Cond.static mL_championOfPairs.1 ∈ z_all := z_all_in (i := 960) (by decide +kernel) (by decide +kernel)
theorem hiL_championOfPairs : Cond.initialized mL_championOfPairs.1.cls ∈ z_all := z_all_in (i := 47) (by decide +kernel) (by decide +kernel)
theorem hpL_championOfPairs : mL_championOfPairs.1.cls ≠ "java/lang/invoke/MethodHandle" ∧ mL_championOfPairs.1.cls ≠ "java/lang/invoke/VarHandle" ∧ (parseMethodDescriptor mL_championOfPairs.1.desc).map (fun d => d.parameters.length) = some 2 := by decide +kernel
theorem wlL_94 : Cond.methodLink "WindElectionLaw" 94 mX11_championOfPairs.1 ∈ z_all := z_all_in (i := 962) (by decide +kernel) (by decide +kernel)
theorem w_championOfPairs {M : zM} {P : zV → zS → zM → Prop} (hc : z_Call mX11_championOfPairs zF [(1, 1)] M P) (hP : ∀ r S' M', P r S' M' → S' = zF ∧ ((∃ v, r = (0, v)) ∨ r = (8, 4))) : z_CallH mL_championOfPairs zF [(1, 1), (1, 529)] M (fun r S' M' => S' = zF ∧ ∃ r1 M1, P r1 zF M1 ∧ ((∃ v, r1 = (0, v) ∧ r = (0, 0) ∧ M' = z_up M1 529 0 v) ∨ (r1 = (8, 4) ∧ r = (0, 1) ∧ M' = M1))) := by
  refine z_enterH (k := 1) rfl rfl rfl ?_
  refine zp_al1 (q := 1) dL_championOfPairs_0 rfl ?_
  refine zr_iconst (q := 2) dL_championOfPairs_1 rfl (z_in_of rfl) ?_
  refine zp_al0 (q := 3) dL_championOfPairs_2 rfl ?_
  refine zp_callVH0 hc mtX11_championOfPairs wiX11_championOfPairs weX11_championOfPairs wlL_94 (q := 6) dL_championOfPairs_3 rfl rfl rfl rfl rfl rfl (fun r S9 M9 h8 hP9 => ?_) (fun k S9 M9 hP9 => ?_)
  · obtain ⟨rfl, hh⟩ := hP _ _ _ hP9
    obtain ⟨v, rfl⟩ : ∃ v, r = (0, v) := by
      rcases hh with h | rfl
      · exact h
      · exact absurd rfl h8
    refine zr_i2l (q := 7) dL_championOfPairs_6 rfl ?_
    refine zr_last (z := 529) (n := 1) (q := 8) dL_championOfPairs_7 rfl k529.1 k529.2.1 k529.2.2 (by decide) (by decide) rfl ?_
    refine zr_goto (q := 14) dL_championOfPairs_8 (by decide) ?_
    refine zr_iconst (q := 15) dL_championOfPairs_14 rfl (z_in_of rfl) ?_
    refine zr_ireturn dL_championOfPairs_15 rfl (z_fit_i _) ?_
    exact ⟨rfl, _, _, hP9, Or.inl ⟨v, rfl, rfl, rfl⟩⟩
  · obtain ⟨rfl, hh⟩ := hP _ _ _ hP9
    rcases hh with h | hv
    · obtain ⟨v, hv⟩ := h
      exact (z_no hv rfl).elim
    · have hk := congrArg Prod.snd hv
      dsimp only at hk
      subst hk
      refine ⟨2, 12, ⟨[], [], (0, 8, 11, 52), rfl, (fun z hz => by cases hz), by decide, by decide, z_cl52, (z_hdx (k := 4) (by decide)).1, (z_hdx (k := 4) (by decide)).2, Or.inr ⟨2, dL_championOfPairs_11, rfl, rfl⟩, by decide, rfl⟩, ?_⟩
      refine zr_iconst (q := 13) dL_championOfPairs_12 rfl (z_in_of rfl) ?_
      refine zr_ireturn dL_championOfPairs_13 rfl (z_fit_i _) ?_
      exact ⟨rfl, _, _, hP9, Or.inr ⟨rfl, rfl, rfl⟩⟩
def mL_championByDuels : zY := (yL_championByDuels, cL_championByDuels, 3, (some .int), (8, 157), (1, 6, [(0, 8, 11, 52)], fun _ _ => True))
theorem hyL_championByDuels : Cond.codeWith mL_championByDuels.1 mL_championByDuels.2.1 mL_championByDuels.2.2.1 mL_championByDuels.2.2.2.1 mL_championByDuels.2.2.2.2.2.2.2.1 ∈ z_all := z_all_in (i := 968) (by decide +kernel) (by decide +kernel)
theorem hsL_championByDuels : Cond.static mL_championByDuels.1 ∈ z_all := z_all_in (i := 967) (by decide +kernel) (by decide +kernel)
theorem hiL_championByDuels : Cond.initialized mL_championByDuels.1.cls ∈ z_all := z_all_in (i := 47) (by decide +kernel) (by decide +kernel)
theorem hpL_championByDuels : mL_championByDuels.1.cls ≠ "java/lang/invoke/MethodHandle" ∧ mL_championByDuels.1.cls ≠ "java/lang/invoke/VarHandle" ∧ (parseMethodDescriptor mL_championByDuels.1.desc).map (fun d => d.parameters.length) = some 2 := by decide +kernel
theorem wlL_97 : Cond.methodLink "WindElectionLaw" 97 mX11_championByDuels.1 ∈ z_all := z_all_in (i := 969) (by decide +kernel) (by decide +kernel)
theorem w_championByDuels {M : zM} {P : zV → zS → zM → Prop} (hc : z_Call mX11_championByDuels zF [(1, 1)] M P) (hP : ∀ r S' M', P r S' M' → S' = zF ∧ ((∃ v, r = (0, v)) ∨ r = (8, 4))) : z_CallH mL_championByDuels zF [(1, 1), (1, 529)] M (fun r S' M' => S' = zF ∧ ∃ r1 M1, P r1 zF M1 ∧ ((∃ v, r1 = (0, v) ∧ r = (0, 0) ∧ M' = z_up M1 529 0 v) ∨ (r1 = (8, 4) ∧ r = (0, 1) ∧ M' = M1))) := by
  refine z_enterH (k := 1) rfl rfl rfl ?_
  refine zp_al1 (q := 1) dL_championByDuels_0 rfl ?_
  refine zr_iconst (q := 2) dL_championByDuels_1 rfl (z_in_of rfl) ?_
  refine zp_al0 (q := 3) dL_championByDuels_2 rfl ?_
  refine zp_callVH0 hc mtX11_championByDuels wiX11_championByDuels weX11_championByDuels wlL_97 (q := 6) dL_championByDuels_3 rfl rfl rfl rfl rfl rfl (fun r S9 M9 h8 hP9 => ?_) (fun k S9 M9 hP9 => ?_)
  · obtain ⟨rfl, hh⟩ := hP _ _ _ hP9
    obtain ⟨v, rfl⟩ : ∃ v, r = (0, v) := by
      rcases hh with h | rfl
      · exact h
      · exact absurd rfl h8
    refine zr_i2l (q := 7) dL_championByDuels_6 rfl ?_
    refine zr_last (z := 529) (n := 1) (q := 8) dL_championByDuels_7 rfl k529.1 k529.2.1 k529.2.2 (by decide) (by decide) rfl ?_
    refine zr_goto (q := 14) dL_championByDuels_8 (by decide) ?_
    refine zr_iconst (q := 15) dL_championByDuels_14 rfl (z_in_of rfl) ?_
    refine zr_ireturn dL_championByDuels_15 rfl (z_fit_i _) ?_
    exact ⟨rfl, _, _, hP9, Or.inl ⟨v, rfl, rfl, rfl⟩⟩
  · obtain ⟨rfl, hh⟩ := hP _ _ _ hP9
    rcases hh with h | hv
    · obtain ⟨v, hv⟩ := h
      exact (z_no hv rfl).elim
    · have hk := congrArg Prod.snd hv
      dsimp only at hk
      subst hk
      refine ⟨2, 12, ⟨[], [], (0, 8, 11, 52), rfl, (fun z hz => by cases hz), by decide, by decide, z_cl52, (z_hdx (k := 4) (by decide)).1, (z_hdx (k := 4) (by decide)).2, Or.inr ⟨2, dL_championByDuels_11, rfl, rfl⟩, by decide, rfl⟩, ?_⟩
      refine zr_iconst (q := 13) dL_championByDuels_12 rfl (z_in_of rfl) ?_
      refine zr_ireturn dL_championByDuels_13 rfl (z_fit_i _) ?_
      exact ⟨rfl, _, _, hP9, Or.inr ⟨rfl, rfl, rfl⟩⟩
def mL_scoreOf : zY := (yL_scoreOf, cL_scoreOf, 4, (some .int), (8, 132), (1, 6, [(0, 9, 12, 19)], fun _ _ => True))
theorem hyL_scoreOf : Cond.codeWith mL_scoreOf.1 mL_scoreOf.2.1 mL_scoreOf.2.2.1 mL_scoreOf.2.2.2.1 mL_scoreOf.2.2.2.2.2.2.2.1 ∈ z_all := z_all_in (i := 975) (by decide +kernel) (by decide +kernel)
theorem hsL_scoreOf : Cond.static mL_scoreOf.1 ∈ z_all := z_all_in (i := 974) (by decide +kernel) (by decide +kernel)
theorem hiL_scoreOf : Cond.initialized mL_scoreOf.1.cls ∈ z_all := z_all_in (i := 47) (by decide +kernel) (by decide +kernel)
theorem hpL_scoreOf : mL_scoreOf.1.cls ≠ "java/lang/invoke/MethodHandle" ∧ mL_scoreOf.1.cls ≠ "java/lang/invoke/VarHandle" ∧ (parseMethodDescriptor mL_scoreOf.1.desc).map (fun d => d.parameters.length) = some 3 := by decide +kernel
theorem wlL_100 : Cond.methodLink "WindElectionLaw" 100 mX11_scoreOf.1 ∈ z_all := z_all_in (i := 976) (by decide +kernel) (by decide +kernel)
theorem w_scoreOf {M : zM} {P : zV → zS → zM → Prop} {p0 : Int} (hc : z_Call mX11_scoreOf zF [(1, 1), (0, p0)] M P) (hP : ∀ r S' M', P r S' M' → S' = zF ∧ ((∃ v, r = (0, v)) ∨ r = (8, 0))) : z_CallH mL_scoreOf zF [(1, 1), (0, p0), (1, 529)] M (fun r S' M' => S' = zF ∧ ∃ r1 M1, P r1 zF M1 ∧ ((∃ v, r1 = (0, v) ∧ r = (0, 0) ∧ M' = z_up M1 529 0 v) ∨ (r1 = (8, 0) ∧ r = (0, 1) ∧ M' = M1))) := by
  refine z_enterH (k := 1) rfl rfl rfl ?_
  refine zp_al2 (q := 1) dL_scoreOf_0 rfl ?_
  refine zr_iconst (q := 2) dL_scoreOf_1 rfl (z_in_of rfl) ?_
  refine zp_al0 (q := 3) dL_scoreOf_2 rfl ?_
  refine zp_il1 (q := 4) dL_scoreOf_3 rfl ?_
  refine zp_callVH1 hc mtX11_scoreOf wiX11_scoreOf weX11_scoreOf wlL_100 (q := 7) dL_scoreOf_4 rfl rfl rfl rfl rfl rfl (fun r S9 M9 h8 hP9 => ?_) (fun k S9 M9 hP9 => ?_)
  · obtain ⟨rfl, hh⟩ := hP _ _ _ hP9
    obtain ⟨v, rfl⟩ : ∃ v, r = (0, v) := by
      rcases hh with h | rfl
      · exact h
      · exact absurd rfl h8
    refine zr_i2l (q := 8) dL_scoreOf_7 rfl ?_
    refine zr_last (z := 529) (n := 1) (q := 9) dL_scoreOf_8 rfl k529.1 k529.2.1 k529.2.2 (by decide) (by decide) rfl ?_
    refine zr_goto (q := 15) dL_scoreOf_9 (by decide) ?_
    refine zr_iconst (q := 16) dL_scoreOf_15 rfl (z_in_of rfl) ?_
    refine zr_ireturn dL_scoreOf_16 rfl (z_fit_i _) ?_
    exact ⟨rfl, _, _, hP9, Or.inl ⟨v, rfl, rfl, rfl⟩⟩
  · obtain ⟨rfl, hh⟩ := hP _ _ _ hP9
    rcases hh with h | hv
    · obtain ⟨v, hv⟩ := h
      exact (z_no hv rfl).elim
    · have hk := congrArg Prod.snd hv
      dsimp only at hk
      subst hk
      refine ⟨3, 13, ⟨[], [], (0, 9, 12, 19), rfl, (fun z hz => by cases hz), by decide, by decide, z_cl19, (z_hdx (k := 0) (by decide)).1, (z_hdx (k := 0) (by decide)).2, Or.inr ⟨3, dL_scoreOf_12, rfl, rfl⟩, by decide, rfl⟩, ?_⟩
      refine zr_iconst (q := 14) dL_scoreOf_13 rfl (z_in_of rfl) ?_
      refine zr_ireturn dL_scoreOf_14 rfl (z_fit_i _) ?_
      exact ⟨rfl, _, _, hP9, Or.inr ⟨rfl, rfl, rfl⟩⟩
def mL_windByScore : zY := (yL_windByScore, cL_windByScore, 4, (some .int), (8, 133), (1, 6, [(0, 9, 12, 52)], fun _ _ => True))
theorem hyL_windByScore : Cond.codeWith mL_windByScore.1 mL_windByScore.2.1 mL_windByScore.2.2.1 mL_windByScore.2.2.2.1 mL_windByScore.2.2.2.2.2.2.2.1 ∈ z_all := z_all_in (i := 986) (by decide +kernel) (by decide +kernel)
theorem hsL_windByScore : Cond.static mL_windByScore.1 ∈ z_all := z_all_in (i := 985) (by decide +kernel) (by decide +kernel)
theorem hiL_windByScore : Cond.initialized mL_windByScore.1.cls ∈ z_all := z_all_in (i := 47) (by decide +kernel) (by decide +kernel)
theorem hpL_windByScore : mL_windByScore.1.cls ≠ "java/lang/invoke/MethodHandle" ∧ mL_windByScore.1.cls ≠ "java/lang/invoke/VarHandle" ∧ (parseMethodDescriptor mL_windByScore.1.desc).map (fun d => d.parameters.length) = some 3 := by decide +kernel
theorem wlL_103 : Cond.methodLink "WindElectionLaw" 103 mX11_windByScore.1 ∈ z_all := z_all_in (i := 987) (by decide +kernel) (by decide +kernel)
theorem w_windByScore {M : zM} {P : zV → zS → zM → Prop} {p0 : Int} (hc : z_Call mX11_windByScore zF [(1, 1), (0, p0)] M P) (hP : ∀ r S' M', P r S' M' → S' = zF ∧ ((∃ v, r = (0, v)) ∨ r = (8, 4))) : z_CallH mL_windByScore zF [(1, 1), (0, p0), (1, 529)] M (fun r S' M' => S' = zF ∧ ∃ r1 M1, P r1 zF M1 ∧ ((∃ v, r1 = (0, v) ∧ r = (0, 0) ∧ M' = z_up M1 529 0 v) ∨ (r1 = (8, 4) ∧ r = (0, 1) ∧ M' = M1))) := by
  refine z_enterH (k := 1) rfl rfl rfl ?_
  refine zp_al2 (q := 1) dL_windByScore_0 rfl ?_
  refine zr_iconst (q := 2) dL_windByScore_1 rfl (z_in_of rfl) ?_
  refine zp_al0 (q := 3) dL_windByScore_2 rfl ?_
  refine zp_il1 (q := 4) dL_windByScore_3 rfl ?_
  refine zp_callVH1 hc mtX11_windByScore wiX11_windByScore weX11_windByScore wlL_103 (q := 7) dL_windByScore_4 rfl rfl rfl rfl rfl rfl (fun r S9 M9 h8 hP9 => ?_) (fun k S9 M9 hP9 => ?_)
  · obtain ⟨rfl, hh⟩ := hP _ _ _ hP9
    obtain ⟨v, rfl⟩ : ∃ v, r = (0, v) := by
      rcases hh with h | rfl
      · exact h
      · exact absurd rfl h8
    refine zr_i2l (q := 8) dL_windByScore_7 rfl ?_
    refine zr_last (z := 529) (n := 1) (q := 9) dL_windByScore_8 rfl k529.1 k529.2.1 k529.2.2 (by decide) (by decide) rfl ?_
    refine zr_goto (q := 15) dL_windByScore_9 (by decide) ?_
    refine zr_iconst (q := 16) dL_windByScore_15 rfl (z_in_of rfl) ?_
    refine zr_ireturn dL_windByScore_16 rfl (z_fit_i _) ?_
    exact ⟨rfl, _, _, hP9, Or.inl ⟨v, rfl, rfl, rfl⟩⟩
  · obtain ⟨rfl, hh⟩ := hP _ _ _ hP9
    rcases hh with h | hv
    · obtain ⟨v, hv⟩ := h
      exact (z_no hv rfl).elim
    · have hk := congrArg Prod.snd hv
      dsimp only at hk
      subst hk
      refine ⟨3, 13, ⟨[], [], (0, 9, 12, 52), rfl, (fun z hz => by cases hz), by decide, by decide, z_cl52, (z_hdx (k := 4) (by decide)).1, (z_hdx (k := 4) (by decide)).2, Or.inr ⟨3, dL_windByScore_12, rfl, rfl⟩, by decide, rfl⟩, ?_⟩
      refine zr_iconst (q := 14) dL_windByScore_13 rfl (z_in_of rfl) ?_
      refine zr_ireturn dL_windByScore_14 rfl (z_fit_i _) ?_
      exact ⟨rfl, _, _, hP9, Or.inr ⟨rfl, rfl, rfl⟩⟩
def mL_certify : zY := (yL_certify, cL_certify, 3, (some .int), (9, 405), (1, 6, [(0, 8, 11, 52)], fun _ _ => True))
theorem hyL_certify : Cond.codeWith mL_certify.1 mL_certify.2.1 mL_certify.2.2.1 mL_certify.2.2.2.1 mL_certify.2.2.2.2.2.2.2.1 ∈ z_all := z_all_in (i := 997) (by decide +kernel) (by decide +kernel)
theorem hsL_certify : Cond.static mL_certify.1 ∈ z_all := z_all_in (i := 996) (by decide +kernel) (by decide +kernel)
theorem hiL_certify : Cond.initialized mL_certify.1.cls ∈ z_all := z_all_in (i := 47) (by decide +kernel) (by decide +kernel)
theorem hpL_certify : mL_certify.1.cls ≠ "java/lang/invoke/MethodHandle" ∧ mL_certify.1.cls ≠ "java/lang/invoke/VarHandle" ∧ (parseMethodDescriptor mL_certify.1.desc).map (fun d => d.parameters.length) = some 2 := by decide +kernel
theorem wlL_106 : Cond.methodLink "WindElectionLaw" 106 mX11_certify.1 ∈ z_all := z_all_in (i := 998) (by decide +kernel) (by decide +kernel)
theorem w_certify {M : zM} {P : zV → zS → zM → Prop} (hc : z_Call mX11_certify zF [(1, 1)] M P) (hP : ∀ r S' M', P r S' M' → S' = zF ∧ ((∃ v, r = (0, v)) ∨ r = (8, 4))) : z_CallH mL_certify zF [(1, 1), (1, 529)] M (fun r S' M' => S' = zF ∧ ∃ r1 M1, P r1 zF M1 ∧ ((∃ v, r1 = (0, v) ∧ r = (0, 0) ∧ M' = z_up M1 529 0 v) ∨ (r1 = (8, 4) ∧ r = (0, 1) ∧ M' = M1))) := by
  refine z_enterH (k := 1) rfl rfl rfl ?_
  refine zp_al1 (q := 1) dL_certify_0 rfl ?_
  refine zr_iconst (q := 2) dL_certify_1 rfl (z_in_of rfl) ?_
  refine zp_al0 (q := 3) dL_certify_2 rfl ?_
  refine zp_callVH0 hc mtX11_certify wiX11_certify weX11_certify wlL_106 (q := 6) dL_certify_3 rfl rfl rfl rfl rfl rfl (fun r S9 M9 h8 hP9 => ?_) (fun k S9 M9 hP9 => ?_)
  · obtain ⟨rfl, hh⟩ := hP _ _ _ hP9
    obtain ⟨v, rfl⟩ : ∃ v, r = (0, v) := by
      rcases hh with h | rfl
      · exact h
      · exact absurd rfl h8
    refine zr_i2l (q := 7) dL_certify_6 rfl ?_
    refine zr_last (z := 529) (n := 1) (q := 8) dL_certify_7 rfl k529.1 k529.2.1 k529.2.2 (by decide) (by decide) rfl ?_
    refine zr_goto (q := 14) dL_certify_8 (by decide) ?_
    refine zr_iconst (q := 15) dL_certify_14 rfl (z_in_of rfl) ?_
    refine zr_ireturn dL_certify_15 rfl (z_fit_i _) ?_
    exact ⟨rfl, _, _, hP9, Or.inl ⟨v, rfl, rfl, rfl⟩⟩
  · obtain ⟨rfl, hh⟩ := hP _ _ _ hP9
    rcases hh with h | hv
    · obtain ⟨v, hv⟩ := h
      exact (z_no hv rfl).elim
    · have hk := congrArg Prod.snd hv
      dsimp only at hk
      subst hk
      refine ⟨2, 12, ⟨[], [], (0, 8, 11, 52), rfl, (fun z hz => by cases hz), by decide, by decide, z_cl52, (z_hdx (k := 4) (by decide)).1, (z_hdx (k := 4) (by decide)).2, Or.inr ⟨2, dL_certify_11, rfl, rfl⟩, by decide, rfl⟩, ?_⟩
      refine zr_iconst (q := 13) dL_certify_12 rfl (z_in_of rfl) ?_
      refine zr_ireturn dL_certify_13 rfl (z_fit_i _) ?_
      exact ⟨rfl, _, _, hP9, Or.inr ⟨rfl, rfl, rfl⟩⟩
def mL_seatAt : zY := (yL_seatAt, cL_seatAt, 4, (some .int), (8, 131), (1, 6, [(0, 9, 12, 52)], fun _ _ => True))
theorem hyL_seatAt : Cond.codeWith mL_seatAt.1 mL_seatAt.2.1 mL_seatAt.2.2.1 mL_seatAt.2.2.2.1 mL_seatAt.2.2.2.2.2.2.2.1 ∈ z_all := z_all_in (i := 1015) (by decide +kernel) (by decide +kernel)
theorem hsL_seatAt : Cond.static mL_seatAt.1 ∈ z_all := z_all_in (i := 1014) (by decide +kernel) (by decide +kernel)
theorem hiL_seatAt : Cond.initialized mL_seatAt.1.cls ∈ z_all := z_all_in (i := 47) (by decide +kernel) (by decide +kernel)
theorem hpL_seatAt : mL_seatAt.1.cls ≠ "java/lang/invoke/MethodHandle" ∧ mL_seatAt.1.cls ≠ "java/lang/invoke/VarHandle" ∧ (parseMethodDescriptor mL_seatAt.1.desc).map (fun d => d.parameters.length) = some 3 := by decide +kernel
theorem wlL_109 : Cond.methodLink "WindElectionLaw" 109 mX11_seatAt.1 ∈ z_all := z_all_in (i := 1016) (by decide +kernel) (by decide +kernel)
theorem w_seatAt {M : zM} {P : zV → zS → zM → Prop} {p0 : Int} (hc : z_Call mX11_seatAt zF [(1, 1), (0, p0)] M P) (hP : ∀ r S' M', P r S' M' → S' = zF ∧ ((∃ v, r = (0, v)) ∨ r = (8, 4))) : z_CallH mL_seatAt zF [(1, 1), (0, p0), (1, 529)] M (fun r S' M' => S' = zF ∧ ∃ r1 M1, P r1 zF M1 ∧ ((∃ v, r1 = (0, v) ∧ r = (0, 0) ∧ M' = z_up M1 529 0 v) ∨ (r1 = (8, 4) ∧ r = (0, 1) ∧ M' = M1))) := by
  refine z_enterH (k := 1) rfl rfl rfl ?_
  refine zp_al2 (q := 1) dL_seatAt_0 rfl ?_
  refine zr_iconst (q := 2) dL_seatAt_1 rfl (z_in_of rfl) ?_
  refine zp_al0 (q := 3) dL_seatAt_2 rfl ?_
  refine zp_il1 (q := 4) dL_seatAt_3 rfl ?_
  refine zp_callVH1 hc mtX11_seatAt wiX11_seatAt weX11_seatAt wlL_109 (q := 7) dL_seatAt_4 rfl rfl rfl rfl rfl rfl (fun r S9 M9 h8 hP9 => ?_) (fun k S9 M9 hP9 => ?_)
  · obtain ⟨rfl, hh⟩ := hP _ _ _ hP9
    obtain ⟨v, rfl⟩ : ∃ v, r = (0, v) := by
      rcases hh with h | rfl
      · exact h
      · exact absurd rfl h8
    refine zr_i2l (q := 8) dL_seatAt_7 rfl ?_
    refine zr_last (z := 529) (n := 1) (q := 9) dL_seatAt_8 rfl k529.1 k529.2.1 k529.2.2 (by decide) (by decide) rfl ?_
    refine zr_goto (q := 15) dL_seatAt_9 (by decide) ?_
    refine zr_iconst (q := 16) dL_seatAt_15 rfl (z_in_of rfl) ?_
    refine zr_ireturn dL_seatAt_16 rfl (z_fit_i _) ?_
    exact ⟨rfl, _, _, hP9, Or.inl ⟨v, rfl, rfl, rfl⟩⟩
  · obtain ⟨rfl, hh⟩ := hP _ _ _ hP9
    rcases hh with h | hv
    · obtain ⟨v, hv⟩ := h
      exact (z_no hv rfl).elim
    · have hk := congrArg Prod.snd hv
      dsimp only at hk
      subst hk
      refine ⟨3, 13, ⟨[], [], (0, 9, 12, 52), rfl, (fun z hz => by cases hz), by decide, by decide, z_cl52, (z_hdx (k := 4) (by decide)).1, (z_hdx (k := 4) (by decide)).2, Or.inr ⟨3, dL_seatAt_12, rfl, rfl⟩, by decide, rfl⟩, ?_⟩
      refine zr_iconst (q := 14) dL_seatAt_13 rfl (z_in_of rfl) ?_
      refine zr_ireturn dL_seatAt_14 rfl (z_fit_i _) ?_
      exact ⟨rfl, _, _, hP9, Or.inr ⟨rfl, rfl, rfl⟩⟩
def mL_writeBallot : zY := (yL_writeBallot, cL_writeBallot, 4, (some .int), (8, 134), (1, 6, [(0, 9, 12, 19)], fun _ _ => True))
theorem hyL_writeBallot : Cond.codeWith mL_writeBallot.1 mL_writeBallot.2.1 mL_writeBallot.2.2.1 mL_writeBallot.2.2.2.1 mL_writeBallot.2.2.2.2.2.2.2.1 ∈ z_all := z_all_in (i := 1026) (by decide +kernel) (by decide +kernel)
theorem hsL_writeBallot : Cond.static mL_writeBallot.1 ∈ z_all := z_all_in (i := 1025) (by decide +kernel) (by decide +kernel)
theorem hiL_writeBallot : Cond.initialized mL_writeBallot.1.cls ∈ z_all := z_all_in (i := 47) (by decide +kernel) (by decide +kernel)
theorem hpL_writeBallot : mL_writeBallot.1.cls ≠ "java/lang/invoke/MethodHandle" ∧ mL_writeBallot.1.cls ≠ "java/lang/invoke/VarHandle" ∧ (parseMethodDescriptor mL_writeBallot.1.desc).map (fun d => d.parameters.length) = some 3 := by decide +kernel
theorem wlL_112 : Cond.methodLink "WindElectionLaw" 112 mX11_writeBallot.1 ∈ z_all := z_all_in (i := 1027) (by decide +kernel) (by decide +kernel)
theorem w_writeBallot {M : zM} {P : zV → zS → zM → Prop} {p0 : Int} (hc : z_Call mX11_writeBallot zF [(1, 1), (0, p0)] M P) (hP : ∀ r S' M', P r S' M' → S' = zF ∧ ((∃ v, r = (0, v)) ∨ r = (8, 0))) : z_CallH mL_writeBallot zF [(1, 1), (0, p0), (1, 529)] M (fun r S' M' => S' = zF ∧ ∃ r1 M1, P r1 zF M1 ∧ ((∃ v, r1 = (0, v) ∧ r = (0, 0) ∧ M' = z_up M1 529 0 v) ∨ (r1 = (8, 0) ∧ r = (0, 1) ∧ M' = M1))) := by
  refine z_enterH (k := 1) rfl rfl rfl ?_
  refine zp_al2 (q := 1) dL_writeBallot_0 rfl ?_
  refine zr_iconst (q := 2) dL_writeBallot_1 rfl (z_in_of rfl) ?_
  refine zp_al0 (q := 3) dL_writeBallot_2 rfl ?_
  refine zp_il1 (q := 4) dL_writeBallot_3 rfl ?_
  refine zp_callVH1 hc mtX11_writeBallot wiX11_writeBallot weX11_writeBallot wlL_112 (q := 7) dL_writeBallot_4 rfl rfl rfl rfl rfl rfl (fun r S9 M9 h8 hP9 => ?_) (fun k S9 M9 hP9 => ?_)
  · obtain ⟨rfl, hh⟩ := hP _ _ _ hP9
    obtain ⟨v, rfl⟩ : ∃ v, r = (0, v) := by
      rcases hh with h | rfl
      · exact h
      · exact absurd rfl h8
    refine zr_i2l (q := 8) dL_writeBallot_7 rfl ?_
    refine zr_last (z := 529) (n := 1) (q := 9) dL_writeBallot_8 rfl k529.1 k529.2.1 k529.2.2 (by decide) (by decide) rfl ?_
    refine zr_goto (q := 15) dL_writeBallot_9 (by decide) ?_
    refine zr_iconst (q := 16) dL_writeBallot_15 rfl (z_in_of rfl) ?_
    refine zr_ireturn dL_writeBallot_16 rfl (z_fit_i _) ?_
    exact ⟨rfl, _, _, hP9, Or.inl ⟨v, rfl, rfl, rfl⟩⟩
  · obtain ⟨rfl, hh⟩ := hP _ _ _ hP9
    rcases hh with h | hv
    · obtain ⟨v, hv⟩ := h
      exact (z_no hv rfl).elim
    · have hk := congrArg Prod.snd hv
      dsimp only at hk
      subst hk
      refine ⟨3, 13, ⟨[], [], (0, 9, 12, 19), rfl, (fun z hz => by cases hz), by decide, by decide, z_cl19, (z_hdx (k := 0) (by decide)).1, (z_hdx (k := 0) (by decide)).2, Or.inr ⟨3, dL_writeBallot_12, rfl, rfl⟩, by decide, rfl⟩, ?_⟩
      refine zr_iconst (q := 14) dL_writeBallot_13 rfl (z_in_of rfl) ?_
      refine zr_ireturn dL_writeBallot_14 rfl (z_fit_i _) ?_
      exact ⟨rfl, _, _, hP9, Or.inr ⟨rfl, rfl, rfl⟩⟩
def mL_lineAt : zY := (yL_lineAt, cL_lineAt, 4, (some .int), (7, 111), (1, 6, [(0, 9, 12, 19)], fun _ _ => True))
theorem hyL_lineAt : Cond.codeWith mL_lineAt.1 mL_lineAt.2.1 mL_lineAt.2.2.1 mL_lineAt.2.2.2.1 mL_lineAt.2.2.2.2.2.2.2.1 ∈ z_all := z_all_in (i := 1033) (by decide +kernel) (by decide +kernel)
theorem hsL_lineAt : Cond.static mL_lineAt.1 ∈ z_all := z_all_in (i := 1032) (by decide +kernel) (by decide +kernel)
theorem hiL_lineAt : Cond.initialized mL_lineAt.1.cls ∈ z_all := z_all_in (i := 47) (by decide +kernel) (by decide +kernel)
theorem hpL_lineAt : mL_lineAt.1.cls ≠ "java/lang/invoke/MethodHandle" ∧ mL_lineAt.1.cls ≠ "java/lang/invoke/VarHandle" ∧ (parseMethodDescriptor mL_lineAt.1.desc).map (fun d => d.parameters.length) = some 3 := by decide +kernel
theorem wlL_115 : Cond.methodLink "WindElectionLaw" 115 mX11_lineAt.1 ∈ z_all := z_all_in (i := 1034) (by decide +kernel) (by decide +kernel)
theorem w_lineAt {M : zM} {P : zV → zS → zM → Prop} {p0 : Int} (hc : z_Call mX11_lineAt zF [(1, 1), (0, p0)] M P) (hP : ∀ r S' M', P r S' M' → S' = zF ∧ ((∃ v, r = (0, v)) ∨ r = (8, 0))) : z_CallH mL_lineAt zF [(1, 1), (0, p0), (1, 529)] M (fun r S' M' => S' = zF ∧ ∃ r1 M1, P r1 zF M1 ∧ ((∃ v, r1 = (0, v) ∧ r = (0, 0) ∧ M' = z_up M1 529 0 v) ∨ (r1 = (8, 0) ∧ r = (0, 1) ∧ M' = M1))) := by
  refine z_enterH (k := 1) rfl rfl rfl ?_
  refine zp_al2 (q := 1) dL_lineAt_0 rfl ?_
  refine zr_iconst (q := 2) dL_lineAt_1 rfl (z_in_of rfl) ?_
  refine zp_al0 (q := 3) dL_lineAt_2 rfl ?_
  refine zp_il1 (q := 4) dL_lineAt_3 rfl ?_
  refine zp_callVH1 hc mtX11_lineAt wiX11_lineAt weX11_lineAt wlL_115 (q := 7) dL_lineAt_4 rfl rfl rfl rfl rfl rfl (fun r S9 M9 h8 hP9 => ?_) (fun k S9 M9 hP9 => ?_)
  · obtain ⟨rfl, hh⟩ := hP _ _ _ hP9
    obtain ⟨v, rfl⟩ : ∃ v, r = (0, v) := by
      rcases hh with h | rfl
      · exact h
      · exact absurd rfl h8
    refine zr_i2l (q := 8) dL_lineAt_7 rfl ?_
    refine zr_last (z := 529) (n := 1) (q := 9) dL_lineAt_8 rfl k529.1 k529.2.1 k529.2.2 (by decide) (by decide) rfl ?_
    refine zr_goto (q := 15) dL_lineAt_9 (by decide) ?_
    refine zr_iconst (q := 16) dL_lineAt_15 rfl (z_in_of rfl) ?_
    refine zr_ireturn dL_lineAt_16 rfl (z_fit_i _) ?_
    exact ⟨rfl, _, _, hP9, Or.inl ⟨v, rfl, rfl, rfl⟩⟩
  · obtain ⟨rfl, hh⟩ := hP _ _ _ hP9
    rcases hh with h | hv
    · obtain ⟨v, hv⟩ := h
      exact (z_no hv rfl).elim
    · have hk := congrArg Prod.snd hv
      dsimp only at hk
      subst hk
      refine ⟨3, 13, ⟨[], [], (0, 9, 12, 19), rfl, (fun z hz => by cases hz), by decide, by decide, z_cl19, (z_hdx (k := 0) (by decide)).1, (z_hdx (k := 0) (by decide)).2, Or.inr ⟨3, dL_lineAt_12, rfl, rfl⟩, by decide, rfl⟩, ?_⟩
      refine zr_iconst (q := 14) dL_lineAt_13 rfl (z_in_of rfl) ?_
      refine zr_ireturn dL_lineAt_14 rfl (z_fit_i _) ?_
      exact ⟨rfl, _, _, hP9, Or.inr ⟨rfl, rfl, rfl⟩⟩
def mL_meanRanks : zY := (yL_meanRanks, cL_meanRanks, 3, (some .int), (7, 110), (1, 6, [(0, 7, 10, 82)], fun _ _ => True))
theorem hyL_meanRanks : Cond.codeWith mL_meanRanks.1 mL_meanRanks.2.1 mL_meanRanks.2.2.1 mL_meanRanks.2.2.2.1 mL_meanRanks.2.2.2.2.2.2.2.1 ∈ z_all := z_all_in (i := 1041) (by decide +kernel) (by decide +kernel)
theorem hsL_meanRanks : Cond.static mL_meanRanks.1 ∈ z_all := z_all_in (i := 1040) (by decide +kernel) (by decide +kernel)
theorem hiL_meanRanks : Cond.initialized mL_meanRanks.1.cls ∈ z_all := z_all_in (i := 47) (by decide +kernel) (by decide +kernel)
theorem hpL_meanRanks : mL_meanRanks.1.cls ≠ "java/lang/invoke/MethodHandle" ∧ mL_meanRanks.1.cls ≠ "java/lang/invoke/VarHandle" ∧ (parseMethodDescriptor mL_meanRanks.1.desc).map (fun d => d.parameters.length) = some 2 := by decide +kernel
theorem wlL_119 : Cond.methodLink "WindElectionLaw" 119 mX11_meanRanks.1 ∈ z_all := z_all_in (i := 1042) (by decide +kernel) (by decide +kernel)
theorem w_meanRanks {M : zM} {P : zV → zS → zM → Prop} (hc : z_Call mX11_meanRanks zF [(1, 1)] M P) (hP : ∀ r S' M', P r S' M' → S' = zF ∧ ((∃ v, r = (4, v)) ∨ r = (8, 3))) : z_CallH mL_meanRanks zF [(1, 1), (1, 530)] M (fun r S' M' => S' = zF ∧ ∃ r1 M1, P r1 zF M1 ∧ ((∃ v, r1 = (4, v) ∧ r = (0, 0) ∧ M' = z_up M1 530 0 v) ∨ (r1 = (8, 3) ∧ r = (0, 1) ∧ M' = M1))) := by
  refine z_enterH (k := 1) rfl rfl rfl ?_
  refine zp_al1 (q := 1) dL_meanRanks_0 rfl ?_
  refine zr_iconst (q := 2) dL_meanRanks_1 rfl (z_in_of rfl) ?_
  refine zp_al0 (q := 3) dL_meanRanks_2 rfl ?_
  refine zp_callVH0 hc mtX11_meanRanks wiX11_meanRanks weX11_meanRanks wlL_119 (q := 6) dL_meanRanks_3 rfl rfl rfl rfl rfl rfl (fun r S9 M9 h8 hP9 => ?_) (fun k S9 M9 hP9 => ?_)
  · obtain ⟨rfl, hh⟩ := hP _ _ _ hP9
    obtain ⟨v, rfl⟩ : ∃ v, r = (4, v) := by
      rcases hh with h | rfl
      · exact h
      · exact absurd rfl h8
    refine zr_dast (z := 530) (n := 1) (q := 7) dL_meanRanks_6 rfl k530.1 k530.2.1 k530.2.2 (by decide) (by decide) rfl ?_
    refine zr_goto (q := 13) dL_meanRanks_7 (by decide) ?_
    refine zr_iconst (q := 14) dL_meanRanks_13 rfl (z_in_of rfl) ?_
    refine zr_ireturn dL_meanRanks_14 rfl (z_fit_i _) ?_
    exact ⟨rfl, _, _, hP9, Or.inl ⟨v, rfl, rfl, rfl⟩⟩
  · obtain ⟨rfl, hh⟩ := hP _ _ _ hP9
    rcases hh with h | hv
    · obtain ⟨v, hv⟩ := h
      exact (z_no hv rfl).elim
    · have hk := congrArg Prod.snd hv
      dsimp only at hk
      subst hk
      refine ⟨2, 11, ⟨[], [], (0, 7, 10, 82), rfl, (fun z hz => by cases hz), by decide, by decide, z_cl82, (z_hdx (k := 3) (by decide)).1, (z_hdx (k := 3) (by decide)).2, Or.inr ⟨2, dL_meanRanks_10, rfl, rfl⟩, by decide, rfl⟩, ?_⟩
      refine zr_iconst (q := 12) dL_meanRanks_11 rfl (z_in_of rfl) ?_
      refine zr_ireturn dL_meanRanks_12 rfl (z_fit_i _) ?_
      exact ⟨rfl, _, _, hP9, Or.inr ⟨rfl, rfl, rfl⟩⟩
def mL_type : zY := (yL_type, cL_type, 4, (some .int), (7, 111), (1, 6, [(0, 9, 12, 32), (0, 9, 15, 13)], fun _ _ => True))
theorem hyL_type : Cond.codeWith mL_type.1 mL_type.2.1 mL_type.2.2.1 mL_type.2.2.2.1 mL_type.2.2.2.2.2.2.2.1 ∈ z_all := z_all_in (i := 1053) (by decide +kernel) (by decide +kernel)
theorem hsL_type : Cond.static mL_type.1 ∈ z_all := z_all_in (i := 1052) (by decide +kernel) (by decide +kernel)
theorem hiL_type : Cond.initialized mL_type.1.cls ∈ z_all := z_all_in (i := 47) (by decide +kernel) (by decide +kernel)
theorem hpL_type : mL_type.1.cls ≠ "java/lang/invoke/MethodHandle" ∧ mL_type.1.cls ≠ "java/lang/invoke/VarHandle" ∧ (parseMethodDescriptor mL_type.1.desc).map (fun d => d.parameters.length) = some 3 := by decide +kernel
theorem wlL_123 : Cond.methodLink "WindElectionLaw" 123 mX11_type.1 ∈ z_all := z_all_in (i := 1054) (by decide +kernel) (by decide +kernel)
theorem w_type {M : zM} {P : zV → zS → zM → Prop} {p0 : Int} (hc : z_Call mX11_type zF [(1, 1), (0, p0)] M P) (hP : ∀ r S' M', P r S' M' → S' = zF ∧ ((∃ v, r = (0, v)) ∨ r = (8, 1) ∨ r = (8, 2))) : z_CallH mL_type zF [(1, 1), (0, p0), (1, 529)] M (fun r S' M' => S' = zF ∧ ∃ r1 M1, P r1 zF M1 ∧ ((∃ v, r1 = (0, v) ∧ r = (0, 0) ∧ M' = z_up M1 529 0 v) ∨ (r1 = (8, 1) ∧ r = (0, 1) ∧ M' = M1) ∨ (r1 = (8, 2) ∧ r = (0, 2) ∧ M' = M1))) := by
  refine z_enterH (k := 1) rfl rfl rfl ?_
  refine zp_al2 (q := 1) dL_type_0 rfl ?_
  refine zr_iconst (q := 2) dL_type_1 rfl (z_in_of rfl) ?_
  refine zp_al0 (q := 3) dL_type_2 rfl ?_
  refine zp_il1 (q := 4) dL_type_3 rfl ?_
  refine zp_callVH1 hc mtX11_type wiX11_type weX11_type wlL_123 (q := 7) dL_type_4 rfl rfl rfl rfl rfl rfl (fun r S9 M9 h8 hP9 => ?_) (fun k S9 M9 hP9 => ?_)
  · obtain ⟨rfl, hh⟩ := hP _ _ _ hP9
    obtain ⟨v, rfl⟩ : ∃ v, r = (0, v) := by
      rcases hh with h | rfl | rfl
      · exact h
      · exact absurd rfl h8
      · exact absurd rfl h8
    refine zr_i2l (q := 8) dL_type_7 rfl ?_
    refine zr_last (z := 529) (n := 1) (q := 9) dL_type_8 rfl k529.1 k529.2.1 k529.2.2 (by decide) (by decide) rfl ?_
    refine zr_goto (q := 18) dL_type_9 (by decide) ?_
    refine zr_iconst (q := 19) dL_type_18 rfl (z_in_of rfl) ?_
    refine zr_ireturn dL_type_19 rfl (z_fit_i _) ?_
    exact ⟨rfl, _, _, hP9, Or.inl ⟨v, rfl, rfl, rfl⟩⟩
  · obtain ⟨rfl, hh⟩ := hP _ _ _ hP9
    rcases hh with h | hv | hv
    · obtain ⟨v, hv⟩ := h
      exact (z_no hv rfl).elim
    · have hk := congrArg Prod.snd hv
      dsimp only at hk
      subst hk
      refine ⟨3, 13, ⟨[], [(0, 9, 15, 13)], (0, 9, 12, 32), rfl, (fun z hz => by cases hz), by decide, by decide, z_cl32, (z_hdx (k := 1) (by decide)).1, (z_hdx (k := 1) (by decide)).2, Or.inr ⟨3, dL_type_12, rfl, rfl⟩, by decide, rfl⟩, ?_⟩
      refine zr_iconst (q := 14) dL_type_13 rfl (z_in_of rfl) ?_
      refine zr_ireturn dL_type_14 rfl (z_fit_i _) ?_
      exact ⟨rfl, _, _, hP9, Or.inr (Or.inl ⟨rfl, rfl, rfl⟩)⟩
    · have hk := congrArg Prod.snd hv
      dsimp only at hk
      subst hk
      refine ⟨3, 16, ⟨[(0, 9, 12, 32)], [], (0, 9, 15, 13), rfl, (fun z hz => by
            simp only [List.mem_cons, List.not_mem_nil, or_false] at hz
            rcases hz with rfl
            · exact ⟨by decide, _, (z_hdx (k := 1) (by decide)).2, by decide, z_cl32⟩), by decide, by decide, z_cl13, (z_hdx (k := 2) (by decide)).1, (z_hdx (k := 2) (by decide)).2, Or.inr ⟨3, dL_type_15, rfl, rfl⟩, by decide, rfl⟩, ?_⟩
      refine zr_iconst (q := 17) dL_type_16 rfl (z_in_of rfl) ?_
      refine zr_ireturn dL_type_17 rfl (z_fit_i _) ?_
      exact ⟨rfl, _, _, hP9, Or.inr (Or.inr (⟨rfl, rfl, rfl⟩))⟩
def mL_execute : zY := (yL_execute, cL_execute, 3, (some .int), (10, 408), (1, 6, [(0, 8, 11, 32), (0, 8, 14, 13)], fun _ _ => True))
theorem hyL_execute : Cond.codeWith mL_execute.1 mL_execute.2.1 mL_execute.2.2.1 mL_execute.2.2.2.1 mL_execute.2.2.2.2.2.2.2.1 ∈ z_all := z_all_in (i := 1062) (by decide +kernel) (by decide +kernel)
theorem hsL_execute : Cond.static mL_execute.1 ∈ z_all := z_all_in (i := 1061) (by decide +kernel) (by decide +kernel)
theorem hiL_execute : Cond.initialized mL_execute.1.cls ∈ z_all := z_all_in (i := 47) (by decide +kernel) (by decide +kernel)
theorem hpL_execute : mL_execute.1.cls ≠ "java/lang/invoke/MethodHandle" ∧ mL_execute.1.cls ≠ "java/lang/invoke/VarHandle" ∧ (parseMethodDescriptor mL_execute.1.desc).map (fun d => d.parameters.length) = some 2 := by decide +kernel
theorem wlL_127 : Cond.methodLink "WindElectionLaw" 127 mX11_execute.1 ∈ z_all := z_all_in (i := 1063) (by decide +kernel) (by decide +kernel)
theorem w_execute {M : zM} {P : zV → zS → zM → Prop} (hc : z_Call mX11_execute zF [(1, 1)] M P) (hP : ∀ r S' M', P r S' M' → S' = zF ∧ ((∃ v, r = (0, v)) ∨ r = (8, 1) ∨ r = (8, 2))) : z_CallH mL_execute zF [(1, 1), (1, 529)] M (fun r S' M' => S' = zF ∧ ∃ r1 M1, P r1 zF M1 ∧ ((∃ v, r1 = (0, v) ∧ r = (0, 0) ∧ M' = z_up M1 529 0 v) ∨ (r1 = (8, 1) ∧ r = (0, 1) ∧ M' = M1) ∨ (r1 = (8, 2) ∧ r = (0, 2) ∧ M' = M1))) := by
  refine z_enterH (k := 1) rfl rfl rfl ?_
  refine zp_al1 (q := 1) dL_execute_0 rfl ?_
  refine zr_iconst (q := 2) dL_execute_1 rfl (z_in_of rfl) ?_
  refine zp_al0 (q := 3) dL_execute_2 rfl ?_
  refine zp_callVH0 hc mtX11_execute wiX11_execute weX11_execute wlL_127 (q := 6) dL_execute_3 rfl rfl rfl rfl rfl rfl (fun r S9 M9 h8 hP9 => ?_) (fun k S9 M9 hP9 => ?_)
  · obtain ⟨rfl, hh⟩ := hP _ _ _ hP9
    obtain ⟨v, rfl⟩ : ∃ v, r = (0, v) := by
      rcases hh with h | rfl | rfl
      · exact h
      · exact absurd rfl h8
      · exact absurd rfl h8
    refine zr_i2l (q := 7) dL_execute_6 rfl ?_
    refine zr_last (z := 529) (n := 1) (q := 8) dL_execute_7 rfl k529.1 k529.2.1 k529.2.2 (by decide) (by decide) rfl ?_
    refine zr_goto (q := 17) dL_execute_8 (by decide) ?_
    refine zr_iconst (q := 18) dL_execute_17 rfl (z_in_of rfl) ?_
    refine zr_ireturn dL_execute_18 rfl (z_fit_i _) ?_
    exact ⟨rfl, _, _, hP9, Or.inl ⟨v, rfl, rfl, rfl⟩⟩
  · obtain ⟨rfl, hh⟩ := hP _ _ _ hP9
    rcases hh with h | hv | hv
    · obtain ⟨v, hv⟩ := h
      exact (z_no hv rfl).elim
    · have hk := congrArg Prod.snd hv
      dsimp only at hk
      subst hk
      refine ⟨2, 12, ⟨[], [(0, 8, 14, 13)], (0, 8, 11, 32), rfl, (fun z hz => by cases hz), by decide, by decide, z_cl32, (z_hdx (k := 1) (by decide)).1, (z_hdx (k := 1) (by decide)).2, Or.inr ⟨2, dL_execute_11, rfl, rfl⟩, by decide, rfl⟩, ?_⟩
      refine zr_iconst (q := 13) dL_execute_12 rfl (z_in_of rfl) ?_
      refine zr_ireturn dL_execute_13 rfl (z_fit_i _) ?_
      exact ⟨rfl, _, _, hP9, Or.inr (Or.inl ⟨rfl, rfl, rfl⟩)⟩
    · have hk := congrArg Prod.snd hv
      dsimp only at hk
      subst hk
      refine ⟨2, 15, ⟨[(0, 8, 11, 32)], [], (0, 8, 14, 13), rfl, (fun z hz => by
            simp only [List.mem_cons, List.not_mem_nil, or_false] at hz
            rcases hz with rfl
            · exact ⟨by decide, _, (z_hdx (k := 1) (by decide)).2, by decide, z_cl32⟩), by decide, by decide, z_cl13, (z_hdx (k := 2) (by decide)).1, (z_hdx (k := 2) (by decide)).2, Or.inr ⟨2, dL_execute_14, rfl, rfl⟩, by decide, rfl⟩, ?_⟩
      refine zr_iconst (q := 16) dL_execute_15 rfl (z_in_of rfl) ?_
      refine zr_ireturn dL_execute_16 rfl (z_fit_i _) ?_
      exact ⟨rfl, _, _, hP9, Or.inr (Or.inr (⟨rfl, rfl, rfl⟩))⟩
def mL_errorPosition : zY := (yL_errorPosition, cL_errorPosition, 3, (some .int), (8, 130), (1, 6, [(0, 8, 11, 52)], fun _ _ => True))
theorem hyL_errorPosition : Cond.codeWith mL_errorPosition.1 mL_errorPosition.2.1 mL_errorPosition.2.2.1 mL_errorPosition.2.2.2.1 mL_errorPosition.2.2.2.2.2.2.2.1 ∈ z_all := z_all_in (i := 1189) (by decide +kernel) (by decide +kernel)
theorem hsL_errorPosition : Cond.static mL_errorPosition.1 ∈ z_all := z_all_in (i := 1188) (by decide +kernel) (by decide +kernel)
theorem hiL_errorPosition : Cond.initialized mL_errorPosition.1.cls ∈ z_all := z_all_in (i := 47) (by decide +kernel) (by decide +kernel)
theorem hpL_errorPosition : mL_errorPosition.1.cls ≠ "java/lang/invoke/MethodHandle" ∧ mL_errorPosition.1.cls ≠ "java/lang/invoke/VarHandle" ∧ (parseMethodDescriptor mL_errorPosition.1.desc).map (fun d => d.parameters.length) = some 2 := by decide +kernel
theorem wlL_130 : Cond.methodLink "WindElectionLaw" 130 mX11_errorPosition.1 ∈ z_all := z_all_in (i := 1190) (by decide +kernel) (by decide +kernel)
theorem w_errorPosition {M : zM} {P : zV → zS → zM → Prop} (hc : z_Call mX11_errorPosition zF [(1, 1)] M P) (hP : ∀ r S' M', P r S' M' → S' = zF ∧ ((∃ v, r = (0, v)) ∨ r = (8, 4))) : z_CallH mL_errorPosition zF [(1, 1), (1, 529)] M (fun r S' M' => S' = zF ∧ ∃ r1 M1, P r1 zF M1 ∧ ((∃ v, r1 = (0, v) ∧ r = (0, 0) ∧ M' = z_up M1 529 0 v) ∨ (r1 = (8, 4) ∧ r = (0, 1) ∧ M' = M1))) := by
  refine z_enterH (k := 1) rfl rfl rfl ?_
  refine zp_al1 (q := 1) dL_errorPosition_0 rfl ?_
  refine zr_iconst (q := 2) dL_errorPosition_1 rfl (z_in_of rfl) ?_
  refine zp_al0 (q := 3) dL_errorPosition_2 rfl ?_
  refine zp_callVH0 hc mtX11_errorPosition wiX11_errorPosition weX11_errorPosition wlL_130 (q := 6) dL_errorPosition_3 rfl rfl rfl rfl rfl rfl (fun r S9 M9 h8 hP9 => ?_) (fun k S9 M9 hP9 => ?_)
  · obtain ⟨rfl, hh⟩ := hP _ _ _ hP9
    obtain ⟨v, rfl⟩ : ∃ v, r = (0, v) := by
      rcases hh with h | rfl
      · exact h
      · exact absurd rfl h8
    refine zr_i2l (q := 7) dL_errorPosition_6 rfl ?_
    refine zr_last (z := 529) (n := 1) (q := 8) dL_errorPosition_7 rfl k529.1 k529.2.1 k529.2.2 (by decide) (by decide) rfl ?_
    refine zr_goto (q := 14) dL_errorPosition_8 (by decide) ?_
    refine zr_iconst (q := 15) dL_errorPosition_14 rfl (z_in_of rfl) ?_
    refine zr_ireturn dL_errorPosition_15 rfl (z_fit_i _) ?_
    exact ⟨rfl, _, _, hP9, Or.inl ⟨v, rfl, rfl, rfl⟩⟩
  · obtain ⟨rfl, hh⟩ := hP _ _ _ hP9
    rcases hh with h | hv
    · obtain ⟨v, hv⟩ := h
      exact (z_no hv rfl).elim
    · have hk := congrArg Prod.snd hv
      dsimp only at hk
      subst hk
      refine ⟨2, 12, ⟨[], [], (0, 8, 11, 52), rfl, (fun z hz => by cases hz), by decide, by decide, z_cl52, (z_hdx (k := 4) (by decide)).1, (z_hdx (k := 4) (by decide)).2, Or.inr ⟨2, dL_errorPosition_11, rfl, rfl⟩, by decide, rfl⟩, ?_⟩
      refine zr_iconst (q := 13) dL_errorPosition_12 rfl (z_in_of rfl) ?_
      refine zr_ireturn dL_errorPosition_13 rfl (z_fit_i _) ?_
      exact ⟨rfl, _, _, hP9, Or.inr ⟨rfl, rfl, rfl⟩⟩
def mL_failedCommand : zY := (yL_failedCommand, cL_failedCommand, 3, (some .int), (8, 130), (1, 6, [(0, 8, 11, 52)], fun _ _ => True))
theorem hyL_failedCommand : Cond.codeWith mL_failedCommand.1 mL_failedCommand.2.1 mL_failedCommand.2.2.1 mL_failedCommand.2.2.2.1 mL_failedCommand.2.2.2.2.2.2.2.1 ∈ z_all := z_all_in (i := 1196) (by decide +kernel) (by decide +kernel)
theorem hsL_failedCommand : Cond.static mL_failedCommand.1 ∈ z_all := z_all_in (i := 1195) (by decide +kernel) (by decide +kernel)
theorem hiL_failedCommand : Cond.initialized mL_failedCommand.1.cls ∈ z_all := z_all_in (i := 47) (by decide +kernel) (by decide +kernel)
theorem hpL_failedCommand : mL_failedCommand.1.cls ≠ "java/lang/invoke/MethodHandle" ∧ mL_failedCommand.1.cls ≠ "java/lang/invoke/VarHandle" ∧ (parseMethodDescriptor mL_failedCommand.1.desc).map (fun d => d.parameters.length) = some 2 := by decide +kernel
theorem wlL_133 : Cond.methodLink "WindElectionLaw" 133 mX11_failedCommand.1 ∈ z_all := z_all_in (i := 1197) (by decide +kernel) (by decide +kernel)
theorem w_failedCommand {M : zM} {P : zV → zS → zM → Prop} (hc : z_Call mX11_failedCommand zF [(1, 1)] M P) (hP : ∀ r S' M', P r S' M' → S' = zF ∧ ((∃ v, r = (0, v)) ∨ r = (8, 4))) : z_CallH mL_failedCommand zF [(1, 1), (1, 529)] M (fun r S' M' => S' = zF ∧ ∃ r1 M1, P r1 zF M1 ∧ ((∃ v, r1 = (0, v) ∧ r = (0, 0) ∧ M' = z_up M1 529 0 v) ∨ (r1 = (8, 4) ∧ r = (0, 1) ∧ M' = M1))) := by
  refine z_enterH (k := 1) rfl rfl rfl ?_
  refine zp_al1 (q := 1) dL_failedCommand_0 rfl ?_
  refine zr_iconst (q := 2) dL_failedCommand_1 rfl (z_in_of rfl) ?_
  refine zp_al0 (q := 3) dL_failedCommand_2 rfl ?_
  refine zp_callVH0 hc mtX11_failedCommand wiX11_failedCommand weX11_failedCommand wlL_133 (q := 6) dL_failedCommand_3 rfl rfl rfl rfl rfl rfl (fun r S9 M9 h8 hP9 => ?_) (fun k S9 M9 hP9 => ?_)
  · obtain ⟨rfl, hh⟩ := hP _ _ _ hP9
    obtain ⟨v, rfl⟩ : ∃ v, r = (0, v) := by
      rcases hh with h | rfl
      · exact h
      · exact absurd rfl h8
    refine zr_i2l (q := 7) dL_failedCommand_6 rfl ?_
    refine zr_last (z := 529) (n := 1) (q := 8) dL_failedCommand_7 rfl k529.1 k529.2.1 k529.2.2 (by decide) (by decide) rfl ?_
    refine zr_goto (q := 14) dL_failedCommand_8 (by decide) ?_
    refine zr_iconst (q := 15) dL_failedCommand_14 rfl (z_in_of rfl) ?_
    refine zr_ireturn dL_failedCommand_15 rfl (z_fit_i _) ?_
    exact ⟨rfl, _, _, hP9, Or.inl ⟨v, rfl, rfl, rfl⟩⟩
  · obtain ⟨rfl, hh⟩ := hP _ _ _ hP9
    rcases hh with h | hv
    · obtain ⟨v, hv⟩ := h
      exact (z_no hv rfl).elim
    · have hk := congrArg Prod.snd hv
      dsimp only at hk
      subst hk
      refine ⟨2, 12, ⟨[], [], (0, 8, 11, 52), rfl, (fun z hz => by cases hz), by decide, by decide, z_cl52, (z_hdx (k := 4) (by decide)).1, (z_hdx (k := 4) (by decide)).2, Or.inr ⟨2, dL_failedCommand_11, rfl, rfl⟩, by decide, rfl⟩, ?_⟩
      refine zr_iconst (q := 13) dL_failedCommand_12 rfl (z_in_of rfl) ?_
      refine zr_ireturn dL_failedCommand_13 rfl (z_fit_i _) ?_
      exact ⟨rfl, _, _, hP9, Or.inr ⟨rfl, rfl, rfl⟩⟩
def mL_undo : zY := (yL_undo, cL_undo, 3, (some .int), (7, 384), (1, 6, [(0, 8, 11, 13)], fun _ _ => True))
theorem hyL_undo : Cond.codeWith mL_undo.1 mL_undo.2.1 mL_undo.2.2.1 mL_undo.2.2.2.1 mL_undo.2.2.2.2.2.2.2.1 ∈ z_all := z_all_in (i := 1203) (by decide +kernel) (by decide +kernel)
theorem hsL_undo : Cond.static mL_undo.1 ∈ z_all := z_all_in (i := 1202) (by decide +kernel) (by decide +kernel)
theorem hiL_undo : Cond.initialized mL_undo.1.cls ∈ z_all := z_all_in (i := 47) (by decide +kernel) (by decide +kernel)
theorem hpL_undo : mL_undo.1.cls ≠ "java/lang/invoke/MethodHandle" ∧ mL_undo.1.cls ≠ "java/lang/invoke/VarHandle" ∧ (parseMethodDescriptor mL_undo.1.desc).map (fun d => d.parameters.length) = some 2 := by decide +kernel
theorem wlL_136 : Cond.methodLink "WindElectionLaw" 136 mX11_undo.1 ∈ z_all := z_all_in (i := 1204) (by decide +kernel) (by decide +kernel)
theorem w_undo {M : zM} {P : zV → zS → zM → Prop} (hc : z_Call mX11_undo zF [(1, 1)] M P) (hP : ∀ r S' M', P r S' M' → S' = zF ∧ ((∃ v, r = (0, v)) ∨ r = (8, 2))) : z_CallH mL_undo zF [(1, 1), (1, 529)] M (fun r S' M' => S' = zF ∧ ∃ r1 M1, P r1 zF M1 ∧ ((∃ v, r1 = (0, v) ∧ r = (0, 0) ∧ M' = z_up M1 529 0 v) ∨ (r1 = (8, 2) ∧ r = (0, 1) ∧ M' = M1))) := by
  refine z_enterH (k := 1) rfl rfl rfl ?_
  refine zp_al1 (q := 1) dL_undo_0 rfl ?_
  refine zr_iconst (q := 2) dL_undo_1 rfl (z_in_of rfl) ?_
  refine zp_al0 (q := 3) dL_undo_2 rfl ?_
  refine zp_callVH0 hc mtX11_undo wiX11_undo weX11_undo wlL_136 (q := 6) dL_undo_3 rfl rfl rfl rfl rfl rfl (fun r S9 M9 h8 hP9 => ?_) (fun k S9 M9 hP9 => ?_)
  · obtain ⟨rfl, hh⟩ := hP _ _ _ hP9
    obtain ⟨v, rfl⟩ : ∃ v, r = (0, v) := by
      rcases hh with h | rfl
      · exact h
      · exact absurd rfl h8
    refine zr_i2l (q := 7) dL_undo_6 rfl ?_
    refine zr_last (z := 529) (n := 1) (q := 8) dL_undo_7 rfl k529.1 k529.2.1 k529.2.2 (by decide) (by decide) rfl ?_
    refine zr_goto (q := 14) dL_undo_8 (by decide) ?_
    refine zr_iconst (q := 15) dL_undo_14 rfl (z_in_of rfl) ?_
    refine zr_ireturn dL_undo_15 rfl (z_fit_i _) ?_
    exact ⟨rfl, _, _, hP9, Or.inl ⟨v, rfl, rfl, rfl⟩⟩
  · obtain ⟨rfl, hh⟩ := hP _ _ _ hP9
    rcases hh with h | hv
    · obtain ⟨v, hv⟩ := h
      exact (z_no hv rfl).elim
    · have hk := congrArg Prod.snd hv
      dsimp only at hk
      subst hk
      refine ⟨2, 12, ⟨[], [], (0, 8, 11, 13), rfl, (fun z hz => by cases hz), by decide, by decide, z_cl13, (z_hdx (k := 2) (by decide)).1, (z_hdx (k := 2) (by decide)).2, Or.inr ⟨2, dL_undo_11, rfl, rfl⟩, by decide, rfl⟩, ?_⟩
      refine zr_iconst (q := 13) dL_undo_12 rfl (z_in_of rfl) ?_
      refine zr_ireturn dL_undo_13 rfl (z_fit_i _) ?_
      exact ⟨rfl, _, _, hP9, Or.inr ⟨rfl, rfl, rfl⟩⟩
def mL_restore : zY := (yL_restore, cL_restore, 3, (some .int), (7, 363), (1, 6, [(0, 8, 11, 13)], fun _ _ => True))
theorem hyL_restore : Cond.codeWith mL_restore.1 mL_restore.2.1 mL_restore.2.2.1 mL_restore.2.2.2.1 mL_restore.2.2.2.2.2.2.2.1 ∈ z_all := z_all_in (i := 1215) (by decide +kernel) (by decide +kernel)
theorem hsL_restore : Cond.static mL_restore.1 ∈ z_all := z_all_in (i := 1214) (by decide +kernel) (by decide +kernel)
theorem hiL_restore : Cond.initialized mL_restore.1.cls ∈ z_all := z_all_in (i := 47) (by decide +kernel) (by decide +kernel)
theorem hpL_restore : mL_restore.1.cls ≠ "java/lang/invoke/MethodHandle" ∧ mL_restore.1.cls ≠ "java/lang/invoke/VarHandle" ∧ (parseMethodDescriptor mL_restore.1.desc).map (fun d => d.parameters.length) = some 2 := by decide +kernel
theorem wlL_139 : Cond.methodLink "WindElectionLaw" 139 mX11_restore.1 ∈ z_all := z_all_in (i := 1216) (by decide +kernel) (by decide +kernel)
theorem w_restore {M : zM} {P : zV → zS → zM → Prop} (hc : z_Call mX11_restore zF [(1, 1)] M P) (hP : ∀ r S' M', P r S' M' → S' = zF ∧ ((∃ v, r = (0, v)) ∨ r = (8, 2))) : z_CallH mL_restore zF [(1, 1), (1, 529)] M (fun r S' M' => S' = zF ∧ ∃ r1 M1, P r1 zF M1 ∧ ((∃ v, r1 = (0, v) ∧ r = (0, 0) ∧ M' = z_up M1 529 0 v) ∨ (r1 = (8, 2) ∧ r = (0, 1) ∧ M' = M1))) := by
  refine z_enterH (k := 1) rfl rfl rfl ?_
  refine zp_al1 (q := 1) dL_restore_0 rfl ?_
  refine zr_iconst (q := 2) dL_restore_1 rfl (z_in_of rfl) ?_
  refine zp_al0 (q := 3) dL_restore_2 rfl ?_
  refine zp_callVH0 hc mtX11_restore wiX11_restore weX11_restore wlL_139 (q := 6) dL_restore_3 rfl rfl rfl rfl rfl rfl (fun r S9 M9 h8 hP9 => ?_) (fun k S9 M9 hP9 => ?_)
  · obtain ⟨rfl, hh⟩ := hP _ _ _ hP9
    obtain ⟨v, rfl⟩ : ∃ v, r = (0, v) := by
      rcases hh with h | rfl
      · exact h
      · exact absurd rfl h8
    refine zr_i2l (q := 7) dL_restore_6 rfl ?_
    refine zr_last (z := 529) (n := 1) (q := 8) dL_restore_7 rfl k529.1 k529.2.1 k529.2.2 (by decide) (by decide) rfl ?_
    refine zr_goto (q := 14) dL_restore_8 (by decide) ?_
    refine zr_iconst (q := 15) dL_restore_14 rfl (z_in_of rfl) ?_
    refine zr_ireturn dL_restore_15 rfl (z_fit_i _) ?_
    exact ⟨rfl, _, _, hP9, Or.inl ⟨v, rfl, rfl, rfl⟩⟩
  · obtain ⟨rfl, hh⟩ := hP _ _ _ hP9
    rcases hh with h | hv
    · obtain ⟨v, hv⟩ := h
      exact (z_no hv rfl).elim
    · have hk := congrArg Prod.snd hv
      dsimp only at hk
      subst hk
      refine ⟨2, 12, ⟨[], [], (0, 8, 11, 13), rfl, (fun z hz => by cases hz), by decide, by decide, z_cl13, (z_hdx (k := 2) (by decide)).1, (z_hdx (k := 2) (by decide)).2, Or.inr ⟨2, dL_restore_11, rfl, rfl⟩, by decide, rfl⟩, ?_⟩
      refine zr_iconst (q := 13) dL_restore_12 rfl (z_in_of rfl) ?_
      refine zr_ireturn dL_restore_13 rfl (z_fit_i _) ?_
      exact ⟨rfl, _, _, hP9, Or.inr ⟨rfl, rfl, rfl⟩⟩
