/-! dep: 20 21 -/
/-! ===== System.arraycopy, statics, bits ===== -/
theorem z_W_setG {C : zC} {S : zS} {M M' : zM} {z : Int} (h1 : 0 < z) {e : va_E} (he : e = z_ob C (S.2.2 z) (M' z)) (hM : ∀ a, a ≠ z → M' a = M a) : (z_W C S M).set (z.toNat - 1) (C.1 + (z.toNat - 1), e) = z_W C S M' := by
  apply List.ext_getElem?
  intro i
  rw [List.getElem?_set]
  by_cases hi : z.toNat - 1 = i
  · rw [if_pos hi]
    subst hi
    by_cases h2 : z ≤ S.2.1
    · rw [z_W_get h1 h2, he, if_pos (by simp [z_W]; omega)]
    · rw [if_neg (by simp [z_W]; omega)]
      symm
      apply List.getElem?_eq_none
      simp [z_W]; omega
  · rw [if_neg hi]
    unfold z_W
    rw [List.getElem?_map, List.getElem?_map]
    by_cases hl : i < S.2.1
    · rw [List.getElem?_range hl]
      simp only [Option.map_some]
      rw [hM ((i : Int) + 1) (by omega)]
    · rw [List.getElem?_eq_none (by simp; omega)]; rfl
section ZR2
variable {Y : zY} {pc q : Nat} {ls st : List zV} {M : zM} {bc bs : Nat} {Q : zV → zS → zM → Prop}
theorem zr_copyi {S : zS} {u v a b n : Int} {nu nv idx : Nat} (hU1 : 0 < u) (hU2 : u ≤ S.2.1) (hU3 : S.2.2 u = (10, nu)) (hV1 : 0 < v) (hV2 : v ≤ S.2.1) (hV3 : S.2.2 v = (10, nv)) (hS0 : S.1 = false) (ha0 : 0 ≤ a) (hb0 : 0 ≤ b) (hn0 : 0 ≤ n) (ha1 : a + n ≤ nu) (hb1 : b + n ≤ nv)
    (w1 : Cond.methodLink Y.1.cls idx arraycopyName ∈ z_all) (w2 : Cond.native arraycopyName ∈ z_all) (w3 : Cond.static arraycopyName ∈ z_all) (w4 : Cond.initialized "java/lang/System" ∈ z_all)
    (hfr : 1 ≤ Y.2.2.2.2.1.1) (hst : z_one st = true) (hlo : st.length + (nativeFrameWords "java/lang/System" "arraycopy" 5 + 11) ≤ Y.2.2.2.2.1.2) (hd : decode Y.2.1 pc = .ok (.invokestatic idx, 3)) (hq : pc + 3 = q)
    (kk : z_Ex Y S q ls st (zCpy M u a v b n) bc bs Q) : z_Ex Y S pc ls ((0, n) :: (0, b) :: (1, v) :: (0, a) :: (1, u) :: st) M bc bs Q := by
  intro C p l e s m args below meth cc H locs cells slots lsA F St
  obtain ⟨hx, hb, hr9, hml, hown, hts, hnm, hlk, hex, hst9, hbase, hK, hKC, hCX⟩ := id F
  obtain ⟨hl, hP, hS, hsz, hokM, hokl, hoks, hc1, hc2⟩ := id St
  subst hq
  have hin := z_oki (z_ok1 hoks).1
  have hib := z_oki (z_ok1 (z_ok1 hoks).2).1
  have hia := z_oki (z_ok1 (z_ok1 (z_ok1 (z_ok1 hoks).2).2).2).1
  have hst8 := (z_ok1 (z_ok1 (z_ok1 (z_ok1 (z_ok1 hoks).2).2).2).2).2
  have hgu := z_W_get (C := C) (S := S) (M := M) hU1 hU2
  have hgv := z_W_get (C := C) (S := S) (M := M) hV1 hV2
  rw [hU3] at hgu
  rw [hV3] at hgv
  have cn : (Int32.ofInt n).toNatClampNeg = n.toNat := zn_clamp hin
  have cb : (Int32.ofInt b).toNatClampNeg = b.toNat := zn_clamp hib
  have ca : (Int32.ofInt a).toNatClampNeg = a.toNat := zn_clamp hia
  show W _ _ _ _ _ _ _ _ _ _ _ _ _ _ _ (F0 m pc lsA (.int (Int32.ofInt n) :: .int (Int32.ofInt b) :: va_rf (z_rf C v) :: .int (Int32.ofInt a) :: va_rf (z_rf C u) :: st.map (z_cv C)))
  rw [z_rf_pos hU1, z_rf_pos hV1]
  refine va_copyi hx hb (hml.trans hl.1.symm) hown (hts _ w1) (hts _ w2) (hts _ w3) (hts _ w4) hK hP z_W_D hS (u.toNat - 1) (v.toNat - 1) 0 0 (ty := .int) hgu hgv rfl rfl rfl (by rw [zn_lt0 hia]; omega) (by rw [zn_lt0 hib]; omega) (by rw [zn_lt0 hin]; omega) (by rw [ca, cn]; omega) (by rw [cb, cn]; omega) (fun _ _ => rfl) hfr (by rw [z_one_sum hst]; exact hlo) hd (fun H1 locs1 hP1 hD1 hS1 => ?_)
  have hM : ∀ z, z ≠ v → zCpy M u a v b n z = M z := by
    intro z hz
    funext j
    unfold zCpy
    rw [if_neg (fun h => hz h.1)]
  rw [z_W_setG (M' := zCpy M u a v b n) hV1 (by
    rw [hV3]
    show Sum.inl (C.2.2.2 0, nv, Sum.inl _) = Sum.inl (C.2.2.2 0, nv, Sum.inl _)
    congr 3
    congr 1
    funext j
    rw [ca, cb, cn]
    unfold va_cpy zCpy
    by_cases hj : b.toNat ≤ j ∧ j < b.toNat + n.toNat
    · rw [if_pos hj, if_pos (by omega)]
      show Int32.ofInt (M u ((a.toNat + (j - b.toNat) : Nat) : Int)) = _
      rw [show (((a.toNat + (j - b.toNat) : Nat)) : Int) = a + ((j : Int) - b) by omega]
    · rw [if_neg hj, if_neg (by omega)]) hM] at hP1
  refine kk C p l e s m args below meth cc H1 locs1 cells slots lsA F ⟨hl, hP1, hS1, (fun h => by rw [hS0] at h; cases h), ?_, hokl, hst8, hc1, hc2⟩
  intro z j h1 h2 h3
  unfold zCpy
  split
  · exact hokM u _ hU1 hU2 (by rw [hU3]; exact z_n14 (by omega))
  · exact hokM z j h1 h2 h3
end ZR2
/-! statics -/
theorem zs_F (i : Nat) (hi : i < 10) {C : zC} {s : State} (h : z_KH C s s.heap) : va_Z "WindElection$Fault" (z_fn.getD i "") "LWindElection$Fault;" (z_cv C (1, -((1 + i : Nat) : Int))) (z_A C) s s.heap := by
  rw [z_cv_neg (by omega)]
  exact (h.2.2.1.1 i hi).1
theorem zs_Wd (i : Nat) (hi : i < 8) {C : zC} {s : State} (h : z_KH C s s.heap) : va_Z "WindElection$Word" (z_wn.getD i "") "LWindElection$Word;" (z_cv C (1, -((11 + i : Nat) : Int))) (z_A C) s s.heap := by
  rw [z_cv_neg (by omega)]
  exact (h.2.2.2.1.1 i hi).1
theorem zs_WS {C : zC} {s : State} (h : z_KH C s s.heap) : va_Z "WindElection" "WORDS" "[LWindElection$Word;" (z_cv C (1, -((19 : Nat) : Int))) (z_A C) s s.heap := by
  rw [z_cv_neg (by omega)]
  exact h.2.2.2.2.2.1
theorem zs_SF {C : zC} {s : State} (h : z_KH C s s.heap) : va_Z "WindElection$1" "$SwitchMap$WindElection$Fault" "[I" (z_cv C (1, -((20 : Nat) : Int))) (z_A C) s s.heap := by
  rw [z_cv_neg (by omega)]
  exact h.2.2.2.2.2.2.2.1
theorem zs_SW {C : zC} {s : State} (h : z_KH C s s.heap) : va_Z "WindElection$1" "$SwitchMap$WindElection$Word" "[I" (z_cv C (1, -((21 : Nat) : Int))) (z_A C) s s.heap := by
  rw [z_cv_neg (by omega)]
  exact h.2.2.2.2.2.2.2.2.2.1
/-- two faults are two objects -/
theorem z_injF {i j : Nat} (hi : i < 10) (hj : j < 10) {C : zC} {s : State} (h : z_KH C s s.heap) (hne : i ≠ j) : z_rf C (-((1 + i : Nat) : Int)) ≠ z_rf C (-((1 + j : Nat) : Int)) := by
  rw [z_rf_neg (by omega), z_rf_neg (by omega)]
  intro e
  exact hne (h.2.2.1.2 i j hi hj (Option.some.inj e))
theorem z_injF' {x y : Int} (hx : -10 ≤ x ∧ x ≤ -1) (hy : -10 ≤ y ∧ y ≤ -1) (hne : x ≠ y) : ∀ (C : zC) (s : State), z_KH C s s.heap → z_rf C x ≠ z_rf C y := by
  intro C s h
  have := z_injF (i := (-x - 1).toNat) (j := (-y - 1).toNat) (by omega) (by omega) h (by omega)
  rw [show (-((1 + (-x - 1).toNat : Nat) : Int)) = x by omega, show (-((1 + (-y - 1).toNat : Nat) : Int)) = y by omega] at this
  exact this
theorem z_injW' {x y : Int} (hx : -18 ≤ x ∧ x ≤ -11) (hy : -18 ≤ y ∧ y ≤ -11) (hne : x ≠ y) : ∀ (C : zC) (s : State), z_KH C s s.heap → z_rf C x ≠ z_rf C y := by
  intro C s h e
  have hi : (-x - 11).toNat < 8 := by omega
  have hj : (-y - 11).toNat < 8 := by omega
  rw [show x = (-((11 + (-x - 11).toNat : Nat) : Int)) by omega, show y = (-((11 + (-y - 11).toNat : Nat) : Int)) by omega, z_rf_neg (by omega), z_rf_neg (by omega)] at e
  have := h.2.2.2.1.2 _ _ hi hj (Option.some.inj e)
  omega
