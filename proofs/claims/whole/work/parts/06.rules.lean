/-! ===== memory ===== -/
def z_fit (ty : FieldType) (v : zV) : Prop := ∀ C : zC, narrow ty (z_cv C v) = z_cv C v ∧ fits ty (z_cv C v) = true
theorem z_fit_i (x : Int) : z_fit .int (0, x) := fun _ => ⟨rfl, rfl⟩
theorem z_fit_z {x : Int} (h : x = 0 ∨ x = 1) : z_fit .boolean (0, x) := by
  intro C
  rcases h with rfl | rfl
  · exact ⟨(by decide +kernel : narrow .boolean (.int (Int32.ofInt 0)) = .int (Int32.ofInt 0)), (by decide +kernel : fits .boolean (.int (Int32.ofInt 0)) = true)⟩
  · exact ⟨(by decide +kernel : narrow .boolean (.int (Int32.ofInt 1)) = .int (Int32.ofInt 1)), (by decide +kernel : fits .boolean (.int (Int32.ofInt 1)) = true)⟩
theorem z_fit_o (n : String) (x : Int) : z_fit (.object n) (1, x) := by
  intro C
  show narrow _ (va_rf (z_rf C x)) = va_rf (z_rf C x) ∧ fits _ (va_rf (z_rf C x)) = true
  cases z_rf C x <;> exact ⟨rfl, rfl⟩
theorem z_fit_a (t : FieldType) (x : Int) : z_fit (.array t) (1, x) := by
  intro C
  show narrow _ (va_rf (z_rf C x)) = va_rf (z_rf C x) ∧ fits _ (va_rf (z_rf C x)) = true
  cases z_rf C x <;> exact ⟨rfl, rfl⟩
theorem z_n14 {k n : Nat} (h : k < 14) : (k, n).1 ≠ 14 := by show k ≠ 14; omega
section ZM
variable {Y : zY} {S : zS} {pc q : Nat} {ls st : List zV} {M : zM} {bc bs : Nat} {Q : zV → zS → zM → Prop}
theorem zr_putf {own : String} {idx c k t : Nat} {ty : FieldType} {z x : Int} (F : z_FldP own idx c k t ty) (hd : decode Y.2.1 pc = .ok (.putfield idx, 3)) (ho : Y.1.cls = own) (hq : pc + 3 = q) (h1 : 0 < z) (h2 : z ≤ S.2.1) (hk : (S.2.2 z).1 = c) (ht : t ≤ 2) (hfit : z_fit ty (t, x))
    (kk : z_Ex Y S q ls st (z_up M z k x) bc bs Q) : z_Ex Y S pc ls ((t, x) :: (1, z) :: st) M bc bs Q := by
  intro C p l e s m args below meth cc H locs cells slots lsA F0' St
  obtain ⟨hx, hb, hr, hml, hown, hts, hnm, hlk, hex, hst, hbase, hK, hKC, hCX⟩ := id F0'
  obtain ⟨hl, hP, hS, hsz, hokM, hokl, hoks, hc1, hc2⟩ := id St
  obtain ⟨hc10, Cn, T, N, tyf, e1, e2, e3, e4, e5, e6, e7, e8, e9⟩ := F
  subst ho; subst hq
  have hg := z_W_get (C := C) (S := S) (M := M) h1 h2
  rw [z_ob_cls (by rw [hk]; exact hc10), hk] at hg
  have hap := va_apart (own := Y.1.cls) hts e4 tyf e8 e9 hK e1
  obtain ⟨r, hr1, cell, q1, q2, q3, q4⟩ := hP _ _ hg
  have hrr : r = (Cn, T, N) := Option.some.inj (hr1.symm.trans e1)
  subst hrr
  obtain ⟨hSl, hfc, kC, hkC, hkind⟩ := hK.1 c _ e1
  obtain ⟨cf, kf, fi, f, hi, hsl⟩ := hSl k e2
  have hlay := hts _ (e4 _ (u_in_lay e2))
  unfold u_lay at hlay
  rw [if_neg (by rw [e6]; decide)] at hlay
  have hst9 := (u_facts hfc hkC (u_lays hts e4 e2) hi).1
  have h6 := u_store hfc hkC hkind hlay hi (by rw [e8 k e2, e7]) (hfit C).1 (hfit C).2
  show W _ _ _ _ _ _ _ _ _ _ _ _ _ _ _ (F0 m pc lsA (z_cv C (t, x) :: va_rf (z_rf C z) :: st.map (z_cv C)))
  rw [z_rf_pos h1]
  refine W.putK hx hb (f := f) ⟨hown, hts _ e3, ⟨_, _, _, hi⟩, hst9⟩ (by rw [q2]; exact h6) q1 q3 (by rw [hsl]; exact k2_hasslot (q4 k e2)) rfl rfl hd fun H' g1 g2 g3 => ?_
  rw [hsl] at g1 ⊢
  have hlen : k < ((z_tags.getD c []).zipIdx.map fun q => z_cv C (q.1, M z q.2)).length := by
    have := (List.getElem?_eq_some_iff.mp e5).1
    simpa using this
  have hP1 := hP.set z_W_D hg (e := .inr (c, (((z_tags.getD c []).zipIdx.map fun q => z_cv C (q.1, M z q.2)).set k (z_cv C (t, x))))) ⟨_, e1, t_OB.to (V := updV (vp_V ((z_tags.getD c []).zipIdx.map fun q => z_cv C (q.1, M z q.2))) k (z_cv C (t, x))) ⟨_, g1, q2, q3, t_set q4 hap e2 _⟩ (fun j _ => vp_updV_set hlen _ j)⟩ g3
  rw [z_fs_set e5, z_W_set (j := k) (v := x) h1 (by rw [z_ob_cls (by rw [hk]; exact hc10), hk, z_up_self])] at hP1
  refine kk C p l e s m args below meth cc H' _ cells slots lsA F0' ⟨hl, hP1, hS.put g2 g3 (z_W_D.2 _ _ hg), fun h => by rw [g2]; exact hsz h, ?_, hokl, fun v hv => hoks v (List.mem_cons_of_mem _ (List.mem_cons_of_mem _ hv)), hc1, hc2⟩
  exact z_okM_up hokM (fun _ => hoks _ List.mem_cons_self ht)
theorem zr_putF {own : String} {idx c k t : Nat} {ty : FieldType} {z x : Int} (F : z_FldF own idx c k t ty) (hd : decode Y.2.1 pc = .ok (.putfield idx, 3)) (ho : Y.1.cls = own) (hin : Y.1.name = "<init>") (hq : pc + 3 = q) (h1 : 0 < z) (h2 : z ≤ S.2.1) (hk : (S.2.2 z).1 = c) (ht : t ≤ 2) (hfit : z_fit ty (t, x))
    (kk : z_Ex Y S q ls st (z_up M z k x) bc bs Q) : z_Ex Y S pc ls ((t, x) :: (1, z) :: st) M bc bs Q := by
  intro C p l e s m args below meth cc H locs cells slots lsA F0' St
  obtain ⟨hx, hb, hr, hml, hown, hts, hnm, hlk, hex, hst, hbase, hK, hKC, hCX⟩ := id F0'
  obtain ⟨hl, hP, hS, hsz, hokM, hokl, hoks, hc1, hc2⟩ := id St
  obtain ⟨hc10, Cn, T, N, tyf, e1, e2, e3, e4, e5, e6, e6b, e7, e8, e9⟩ := F
  subst ho; subst hq
  have hg := z_W_get (C := C) (S := S) (M := M) h1 h2
  rw [z_ob_cls (by rw [hk]; exact hc10), hk] at hg
  have hap := va_apart (own := Y.1.cls) hts e4 tyf e8 e9 hK e1
  obtain ⟨r, hr1, cell, q1, q2, q3, q4⟩ := hP _ _ hg
  have hrr : r = (Cn, T, N) := Option.some.inj (hr1.symm.trans e1)
  subst hrr
  obtain ⟨hSl, hfc, kC, hkC, hkind⟩ := hK.1 c _ e1
  obtain ⟨cf, kf, fi, f, hi, hsl⟩ := hSl k e2
  have hlay := hts _ (e4 _ (u_in_lay e2))
  unfold u_lay at hlay
  rw [if_pos e6] at hlay
  have hst9 := (u_facts hfc hkC (u_lays hts e4 e2) hi).1
  have hcf : m.cls = cf := by
    obtain ⟨_, _, c', _, _, _, -, -, hf', -, -, -, hown2, -⟩ := Cond.laysFinal_spec hlay
    have e1 : c' = cf := by have := hi.symm.trans hf'; simp at this; exact this.1.symm
    rw [e6b] at hown2
    rw [← e1]; exact Option.some.inj (hown.symm.trans hown2)
  have h6 := u_fits hfc hkC hkind (Or.inr hlay) hi (by rw [e8 k e2, e7]) (hfit C).1 (hfit C).2
  show W _ _ _ _ _ _ _ _ _ _ _ _ _ _ _ (F0 m pc lsA (z_cv C (t, x) :: va_rf (z_rf C z) :: st.map (z_cv C)))
  rw [z_rf_pos h1]
  refine W.putFinK hx hb hown (hts _ e3) hi hst9 hcf (hnm.trans hin) (by rw [q2]; exact h6) q1 q3 (by rw [hsl]; exact k2_hasslot (q4 k e2)) rfl rfl hd fun H' g1 g2 g3 => ?_
  rw [hsl] at g1 ⊢
  have hlen : k < ((z_tags.getD c []).zipIdx.map fun q => z_cv C (q.1, M z q.2)).length := by
    have := (List.getElem?_eq_some_iff.mp e5).1
    simpa using this
  have hP1 := hP.set z_W_D hg (e := .inr (c, (((z_tags.getD c []).zipIdx.map fun q => z_cv C (q.1, M z q.2)).set k (z_cv C (t, x))))) ⟨_, e1, t_OB.to (V := updV (vp_V ((z_tags.getD c []).zipIdx.map fun q => z_cv C (q.1, M z q.2))) k (z_cv C (t, x))) ⟨_, g1, q2, q3, t_set q4 hap e2 _⟩ (fun j _ => vp_updV_set hlen _ j)⟩ g3
  rw [z_fs_set e5, z_W_set (j := k) (v := x) h1 (by rw [z_ob_cls (by rw [hk]; exact hc10), hk, z_up_self])] at hP1
  refine kk C p l e s m args below meth cc H' _ cells slots lsA F0' ⟨hl, hP1, hS.put g2 g3 (z_W_D.2 _ _ hg), fun h => by rw [g2]; exact hsz h, ?_, hokl, fun v hv => hoks v (List.mem_cons_of_mem _ (List.mem_cons_of_mem _ hv)), hc1, hc2⟩
  exact z_okM_up hokM (fun _ => hoks _ List.mem_cons_self ht)
/-! arrays of ints, booleans, chars -/
theorem zr_iald {z i : Int} {n : Nat} (hd : decode Y.2.1 pc = .ok (.iaload, 1)) (hq : pc + 1 = q) (h1 : 0 < z) (h2 : z ≤ S.2.1) (hk : S.2.2 z = (10, n)) (hi0 : 0 ≤ i) (hi1 : i < n)
    (kk : z_Ex Y S q ls ((0, M z i) :: st) M bc bs Q) : z_Ex Y S pc ls ((0, i) :: (1, z) :: st) M bc bs Q := by
  intro C p l e s m args below meth cc H locs cells slots lsA F St
  obtain ⟨hx, hb, hr, hml, hown, hts, hnm, hlk, hex, hst, hbase, hK, hKC, hCX⟩ := id F
  obtain ⟨hl, hP, hS, hsz, hokM, hokl, hoks, hc1, hc2⟩ := id St
  subst hq
  have hii := z_oki (z_ok2 hoks).1
  have hg := z_W_get (C := C) (S := S) (M := M) h1 h2
  rw [hk] at hg
  show W _ _ _ _ _ _ _ _ _ _ _ _ _ _ _ (F0 m pc lsA (.int (Int32.ofInt i) :: va_rf (z_rf C z) :: st.map (z_cv C)))
  rw [z_rf_pos h1]
  refine va_iald hx hb hK hP (z.toNat - 1) 0 hg rfl (zn_ix hi0 hi1 hii) hd ?_
  rw [zn_nat hi0 hii]
  exact kk C p l e s m args below meth cc H locs cells slots lsA F ⟨hl, hP, hS, hsz, hokM, hokl, z_okc (z_iok (hokM z i h1 h2 (by rw [hk]; exact z_n14 (by omega)))) (z_ok2 hoks).2.2, hc1, hc2⟩
theorem zr_zald {z i : Int} {n : Nat} (hd : decode Y.2.1 pc = .ok (.baload, 1)) (hq : pc + 1 = q) (h1 : 0 < z) (h2 : z ≤ S.2.1) (hk : S.2.2 z = (11, n)) (hi0 : 0 ≤ i) (hi1 : i < n)
    (kk : z_Ex Y S q ls ((0, M z i) :: st) M bc bs Q) : z_Ex Y S pc ls ((0, i) :: (1, z) :: st) M bc bs Q := by
  intro C p l e s m args below meth cc H locs cells slots lsA F St
  obtain ⟨hx, hb, hr, hml, hown, hts, hnm, hlk, hex, hst, hbase, hK, hKC, hCX⟩ := id F
  obtain ⟨hl, hP, hS, hsz, hokM, hokl, hoks, hc1, hc2⟩ := id St
  subst hq
  have hii := z_oki (z_ok2 hoks).1
  have hg := z_W_get (C := C) (S := S) (M := M) h1 h2
  rw [hk] at hg
  show W _ _ _ _ _ _ _ _ _ _ _ _ _ _ _ (F0 m pc lsA (.int (Int32.ofInt i) :: va_rf (z_rf C z) :: st.map (z_cv C)))
  rw [z_rf_pos h1]
  refine va_zald hx hb hK hP (z.toNat - 1) 1 hg rfl (zn_ix hi0 hi1 hii) hd ?_
  rw [zn_nat hi0 hii]
  exact kk C p l e s m args below meth cc H locs cells slots lsA F ⟨hl, hP, hS, hsz, hokM, hokl, z_okc (z_iok (hokM z i h1 h2 (by rw [hk]; exact z_n14 (by omega)))) (z_ok2 hoks).2.2, hc1, hc2⟩
theorem zr_cald {z i : Int} {n : Nat} (hd : decode Y.2.1 pc = .ok (.caload, 1)) (hq : pc + 1 = q) (h1 : 0 < z) (h2 : z ≤ S.2.1) (hk : S.2.2 z = (12, n)) (hi0 : 0 ≤ i) (hi1 : i < n)
    (kk : z_Ex Y S q ls ((0, M z i) :: st) M bc bs Q) : z_Ex Y S pc ls ((0, i) :: (1, z) :: st) M bc bs Q := by
  intro C p l e s m args below meth cc H locs cells slots lsA F St
  obtain ⟨hx, hb, hr, hml, hown, hts, hnm, hlk, hex, hst, hbase, hK, hKC, hCX⟩ := id F
  obtain ⟨hl, hP, hS, hsz, hokM, hokl, hoks, hc1, hc2⟩ := id St
  subst hq
  have hii := z_oki (z_ok2 hoks).1
  have hg := z_W_get (C := C) (S := S) (M := M) h1 h2
  rw [hk] at hg
  show W _ _ _ _ _ _ _ _ _ _ _ _ _ _ _ (F0 m pc lsA (.int (Int32.ofInt i) :: va_rf (z_rf C z) :: st.map (z_cv C)))
  rw [z_rf_pos h1]
  refine va_cald hx hb hK hP (z.toNat - 1) 2 hg rfl (zn_ix hi0 hi1 hii) hd ?_
  rw [zn_nat hi0 hii]
  exact kk C p l e s m args below meth cc H locs cells slots lsA F ⟨hl, hP, hS, hsz, hokM, hokl, z_okc (z_iok (hokM z i h1 h2 (by rw [hk]; exact z_n14 (by omega)))) (z_ok2 hoks).2.2, hc1, hc2⟩
theorem z_upd {M : zM} {z i x : Int} (h0 : 0 ≤ i) (hi : z_in i) : upd (fun j : Nat => Int32.ofInt (M z j)) (Int32.ofInt i).toNatClampNeg (Int32.ofInt x) = fun j : Nat => Int32.ofInt (z_up M z i x z j) := by
  funext j
  have e := zn_nat h0 hi
  unfold upd z_up
  by_cases hj : j = (Int32.ofInt i).toNatClampNeg
  · rw [if_pos hj, if_pos ⟨rfl, by rw [hj]; exact e⟩]
  · rw [if_neg hj, if_neg (fun q => hj (by omega))]
theorem zr_iast {z i x : Int} {n : Nat} (hd : decode Y.2.1 pc = .ok (.iastore, 1)) (hq : pc + 1 = q) (h1 : 0 < z) (h2 : z ≤ S.2.1) (hk : S.2.2 z = (10, n)) (hi0 : 0 ≤ i) (hi1 : i < n) (hS0 : S.1 = false)
    (kk : z_Ex Y S q ls st (z_up M z i x) bc bs Q) : z_Ex Y S pc ls ((0, x) :: (0, i) :: (1, z) :: st) M bc bs Q := by
  intro C p l e s m args below meth cc H locs cells slots lsA F St
  obtain ⟨hx, hb, hr, hml, hown, hts, hnm, hlk, hex, hst, hbase, hK, hKC, hCX⟩ := id F
  obtain ⟨hl, hP, hS, hsz, hokM, hokl, hoks, hc1, hc2⟩ := id St
  subst hq
  have hii := z_oki (z_ok2 hoks).2.1
  have hg := z_W_get (C := C) (S := S) (M := M) h1 h2
  rw [hk] at hg
  show W _ _ _ _ _ _ _ _ _ _ _ _ _ _ _ (F0 m pc lsA (.int (Int32.ofInt x) :: .int (Int32.ofInt i) :: va_rf (z_rf C z) :: st.map (z_cv C)))
  rw [z_rf_pos h1]
  refine va_iast hx hb hK hP z_W_D hS (z.toNat - 1) 0 hg rfl (zn_ix hi0 hi1 hii) hd (fun H1 locs1 hP1 hD1 hS1 => ?_)
  rw [z_upd hi0 hii, z_W_set (j := i) (v := x) h1 (by rw [hk]; rfl)] at hP1
  exact kk C p l e s m args below meth cc H1 locs1 cells slots lsA F ⟨hl, hP1, hS1, (fun h => by rw [hS0] at h; cases h), z_okM_up hokM (fun _ => z_oki (z_ok2 hoks).1), hokl, fun v hv => (z_ok2 hoks).2.2 v (List.mem_cons_of_mem _ hv), hc1, hc2⟩
theorem zr_zast {z i x : Int} {n : Nat} (hd : decode Y.2.1 pc = .ok (.bastore, 1)) (hq : pc + 1 = q) (h1 : 0 < z) (h2 : z ≤ S.2.1) (hk : S.2.2 z = (11, n)) (hi0 : 0 ≤ i) (hi1 : i < n) (hS0 : S.1 = false) (hx01 : x = 0 ∨ x = 1)
    (kk : z_Ex Y S q ls st (z_up M z i x) bc bs Q) : z_Ex Y S pc ls ((0, x) :: (0, i) :: (1, z) :: st) M bc bs Q := by
  intro C p l e s m args below meth cc H locs cells slots lsA F St
  obtain ⟨hx, hb, hr, hml, hown, hts, hnm, hlk, hex, hst, hbase, hK, hKC, hCX⟩ := id F
  obtain ⟨hl, hP, hS, hsz, hokM, hokl, hoks, hc1, hc2⟩ := id St
  subst hq
  have hii := z_oki (z_ok2 hoks).2.1
  have hg := z_W_get (C := C) (S := S) (M := M) h1 h2
  rw [hk] at hg
  show W _ _ _ _ _ _ _ _ _ _ _ _ _ _ _ (F0 m pc lsA (.int (Int32.ofInt x) :: .int (Int32.ofInt i) :: va_rf (z_rf C z) :: st.map (z_cv C)))
  rw [z_rf_pos h1]
  refine va_zast hx hb hK hP z_W_D hS (z.toNat - 1) 1 hg rfl (zn_ix hi0 hi1 hii) hd (fun H1 locs1 hP1 hD1 hS1 => ?_)
  rw [show vp_nar .boolean (Int32.ofInt x) = Int32.ofInt x by rcases hx01 with rfl | rfl <;> decide +kernel, z_upd hi0 hii, z_W_set (j := i) (v := x) h1 (by rw [hk]; rfl)] at hP1
  exact kk C p l e s m args below meth cc H1 locs1 cells slots lsA F ⟨hl, hP1, hS1, (fun h => by rw [hS0] at h; cases h), z_okM_up hokM (fun _ => z_oki (z_ok2 hoks).1), hokl, fun v hv => (z_ok2 hoks).2.2 v (List.mem_cons_of_mem _ hv), hc1, hc2⟩
theorem z_char {x : Int} (h0 : 0 ≤ x) (h1 : x < 65536) : vp_nar .char (Int32.ofInt x) = Int32.ofInt x := by
  obtain ⟨n, rfl⟩ := Int.eq_ofNat_of_zero_le h0
  have e := (pk_charN (q := n) (by omega)).1
  rw [Int32.ofInt_eq_ofNat]
  show (match narrow .char (.int (nI n)) with | .int y => y | _ => 0) = nI n
  rw [e]
theorem zr_cast {z i x : Int} {n : Nat} (hd : decode Y.2.1 pc = .ok (.castore, 1)) (hq : pc + 1 = q) (h1 : 0 < z) (h2 : z ≤ S.2.1) (hk : S.2.2 z = (12, n)) (hi0 : 0 ≤ i) (hi1 : i < n) (hS0 : S.1 = false) (hx0 : 0 ≤ x) (hx1 : x < 65536)
    (kk : z_Ex Y S q ls st (z_up M z i x) bc bs Q) : z_Ex Y S pc ls ((0, x) :: (0, i) :: (1, z) :: st) M bc bs Q := by
  intro C p l e s m args below meth cc H locs cells slots lsA F St
  obtain ⟨hx, hb, hr, hml, hown, hts, hnm, hlk, hex, hst, hbase, hK, hKC, hCX⟩ := id F
  obtain ⟨hl, hP, hS, hsz, hokM, hokl, hoks, hc1, hc2⟩ := id St
  subst hq
  have hii := z_oki (z_ok2 hoks).2.1
  have hg := z_W_get (C := C) (S := S) (M := M) h1 h2
  rw [hk] at hg
  show W _ _ _ _ _ _ _ _ _ _ _ _ _ _ _ (F0 m pc lsA (.int (Int32.ofInt x) :: .int (Int32.ofInt i) :: va_rf (z_rf C z) :: st.map (z_cv C)))
  rw [z_rf_pos h1]
  refine va_cast hx hb hK hP z_W_D hS (z.toNat - 1) 2 hg rfl (zn_ix hi0 hi1 hii) hd (fun H1 locs1 hP1 hD1 hS1 => ?_)
  rw [z_char hx0 hx1, z_upd hi0 hii, z_W_set (j := i) (v := x) h1 (by rw [hk]; rfl)] at hP1
  exact kk C p l e s m args below meth cc H1 locs1 cells slots lsA F ⟨hl, hP1, hS1, (fun h => by rw [hS0] at h; cases h), z_okM_up hokM (fun _ => z_oki (z_ok2 hoks).1), hokl, fun v hv => (z_ok2 hoks).2.2 v (List.mem_cons_of_mem _ hv), hc1, hc2⟩
end ZM
section ZN
variable {Y : zY} {S : zS} {pc q : Nat} {ls st : List zV} {M : zM} {bc bs : Nat} {Q : zV → zS → zM → Prop}
/-! arrays of objects: 15 Assembly, 16 Ballot, 17 Round -/
theorem zr_aald {z i : Int} {kd n : Nat} (hkd : kd = 15 ∨ kd = 16 ∨ kd = 17) (hd : decode Y.2.1 pc = .ok (.aaload, 1)) (hq : pc + 1 = q) (h1 : 0 < z) (h2 : z ≤ S.2.1) (hk : S.2.2 z = (kd, n)) (hi0 : 0 ≤ i) (hi1 : i < n)
    (kk : z_Ex Y S q ls ((1, M z i) :: st) M bc bs Q) : z_Ex Y S pc ls ((0, i) :: (1, z) :: st) M bc bs Q := by
  intro C p l e s m args below meth cc H locs cells slots lsA F St
  obtain ⟨hx, hb, hr, hml, hown, hts, hnm, hlk, hex, hst, hbase, hK, hKC, hCX⟩ := id F
  obtain ⟨hl, hP, hS, hsz, hokM, hokl, hoks, hc1, hc2⟩ := id St
  subst hq
  have hii := z_oki (z_ok2 hoks).1
  have hg := z_W_get (C := C) (S := S) (M := M) h1 h2
  rw [hk] at hg
  show W _ _ _ _ _ _ _ _ _ _ _ _ _ _ _ (F0 m pc lsA (.int (Int32.ofInt i) :: va_rf (z_rf C z) :: st.map (z_cv C)))
  rw [z_rf_pos h1]
  have fin := kk C p l e s m args below meth cc H locs cells slots lsA F ⟨hl, hP, hS, hsz, hokM, hokl, z_okc (fun _ => hokM z i h1 h2 (by rw [hk]; show kd ≠ 14; omega)) (z_ok2 hoks).2.2, hc1, hc2⟩
  have ei : M z i = M z ((Int32.ofInt i).toNatClampNeg : Int) := by rw [zn_nat hi0 hii]
  rw [ei] at fin
  rcases hkd with rfl | rfl | rfl
  · exact va_aldq hx hb hK hP (z.toNat - 1) 5 hg rfl (zn_ix hi0 hi1 hii) hd fin
  · exact va_aldq hx hb hK hP (z.toNat - 1) 6 hg rfl (zn_ix hi0 hi1 hii) hd fin
  · exact va_aldq hx hb hK hP (z.toNat - 1) 7 hg rfl (zn_ix hi0 hi1 hii) hd fin
theorem z_updq {C : zC} {M : zM} {z i x : Int} (h0 : 0 ≤ i) (hi : z_in i) (hx : 0 < x) : va_up (fun j : Nat => z_rf C (M z j)) (Int32.ofInt i).toNatClampNeg (some (C.1 + (x.toNat - 1))) = fun j : Nat => z_rf C (z_up M z i x z j) := by
  funext j
  have e := zn_nat h0 hi
  unfold va_up z_up
  by_cases hj : j = (Int32.ofInt i).toNatClampNeg
  · rw [if_pos hj, if_pos ⟨rfl, by rw [hj]; exact e⟩]
    unfold z_rf
    rw [if_neg (by omega), if_pos hx]
  · rw [if_neg hj, if_neg (fun q => hj (by omega))]
/-- an object of the right kind is stored -/
theorem zr_aast {z i x : Int} {kd n c : Nat} (hkd : (kd = 15 ∧ c = 0) ∨ (kd = 16 ∧ c = 1) ∨ (kd = 17 ∧ c = 6)) (hd : decode Y.2.1 pc = .ok (.aastore, 1)) (hq : pc + 1 = q) (h1 : 0 < z) (h2 : z ≤ S.2.1) (hk : S.2.2 z = (kd, n)) (hi0 : 0 ≤ i) (hi1 : i < n) (hx1 : 0 < x) (hx2 : x ≤ S.2.1) (hxk : (S.2.2 x).1 = c)
    (kk : z_Ex Y S q ls st (z_up M z i x) bc bs Q) : z_Ex Y S pc ls ((1, x) :: (0, i) :: (1, z) :: st) M bc bs Q := by
  intro C p l e s m args below meth cc H locs cells slots lsA F St
  obtain ⟨hx, hb, hr, hml, hown, hts, hnm, hlk, hex, hst, hbase, hK, hKC, hCX⟩ := id F
  obtain ⟨hl, hP, hS, hsz, hokM, hokl, hoks, hc1, hc2⟩ := id St
  subst hq
  have hii := z_oki (z_ok2 hoks).2.1
  have hg := z_W_get (C := C) (S := S) (M := M) h1 h2
  rw [hk] at hg
  have hgx := z_W_get (C := C) (S := S) (M := M) hx1 hx2
  rw [z_ob_cls (by rw [hxk]; rcases hkd with ⟨-, rfl⟩ | ⟨-, rfl⟩ | ⟨-, rfl⟩ <;> decide), hxk] at hgx
  show W _ _ _ _ _ _ _ _ _ _ _ _ _ _ _ (F0 m pc lsA (va_rf (z_rf C x) :: .int (Int32.ofInt i) :: va_rf (z_rf C z) :: st.map (z_cv C)))
  rw [z_rf_pos h1, z_rf_pos hx1]
  obtain ⟨E, t0, f, hE, hty, hcl⟩ : ∃ (cA : ClassId) (t0 : Nat) (r : vw_C), (z_W C S M)[z.toNat - 1]? = some (C.1 + (z.toNat - 1), .inl (cA, n, .inr (.inr (.inr (.inr fun j => z_rf C (M z j)))))) ∧ (z_tys C)[t0]? = some (cA, .object r.1) ∧ z_cl[c]? = some r := by
    rcases hkd with ⟨rfl, rfl⟩ | ⟨rfl, rfl⟩ | ⟨rfl, rfl⟩
    · exact ⟨_, 5, _, hg, rfl, rfl⟩
    · exact ⟨_, 6, _, hg, rfl, rfl⟩
    · exact ⟨_, 7, _, hg, rfl, rfl⟩
  have hin := zn_ix hi0 hi1 hii
  have hlt : (Int32.ofInt i).toNatClampNeg < n := Nat.not_le.mp fun q => hin (Or.inr q)
  obtain ⟨r', hr', cellV, g1, g2, g3, -⟩ := hP _ _ hgx
  have hcls := (hK.1 c f hcl).2
  obtain ⟨kA, comp, k1, k2, k3, -⟩ := (hK.2 t0 _ hty).2
  have hcomp : comp = C.2.2.1.1 c := Option.some.inj (k3.symm.trans hcls.1)
  subst hcomp
  obtain ⟨kC, hkC, -⟩ := hcls.2
  refine W.aast hx hb (hP _ _ hE) (fun q h => by cases h) (fun h => by cases h) k1 k2 rfl hkC ⟨fun q => hin (Or.inl q), by show _ < (arrV _ _ _).slots.size; rw [arrV_size]; exact hlt⟩ g1 (fun q h => by rw [g3] at h; cases h) (by rw [g2]; exact hkC) (by rw [g2]; exact va_assign hcls) rfl rfl hd fun H1 e1 z1 oq => ?_
  have hP1 := hP.set z_W_D hE (e := .inl (E, n, .inr (.inr (.inr (.inr (va_up (fun j : Nat => z_rf C (M z j)) (Int32.ofInt i).toNatClampNeg (some (C.1 + (x.toNat - 1))))))))) (by
    show H1[_]? = some (vp_cell _ _)
    rw [e1, vp_cell_q, vp_cell_q, arrV_store]
    congr 2
    funext q
    by_cases hq : q = (Int32.ofInt i).toNatClampNeg
    · subst hq; simp [updV, va_up, va_rf]
    · simp [updV, va_up, hq]) oq
  rw [z_updq hi0 hii hx1, z_W_set (j := i) (v := x) h1 (by
    rw [hk]
    have h9 := hE.symm.trans hg
    have h8 := Option.some.inj h9
    have h7 := congrArg Prod.snd h8
    rcases hkd with ⟨rfl, -⟩ | ⟨rfl, -⟩ | ⟨rfl, -⟩ <;> (cases h7; rfl))] at hP1
  exact kk C p l e s m args below meth cc H1 _ cells slots lsA F ⟨hl, hP1, hS.put z1 oq (show C.1 ≤ C.1 + (z.toNat - 1) from Nat.le_add_right _ _), (fun h => by rw [z1]; exact hsz h), z_okM_up hokM (fun _ => (z_ok2 hoks).1 (show (1:Nat) ≤ 2 by decide)), hokl, fun v hv => (z_ok2 hoks).2.2 v (List.mem_cons_of_mem _ hv), hc1, hc2⟩
/-! new things: the shape grows -/
def z_push (S : zS) (kd : Nat × Nat) : zS := (S.1, S.2.1 + 1, fun z => if z = (S.2.1 : Int) + 1 then kd else S.2.2 z)
def z_zero (M : zM) (z : Int) : zM := fun a b => if a = z then 0 else M a b
theorem z_W_push {C : zC} {S : zS} {M : zM} {kd : Nat × Nat} : z_W C (z_push S kd) (z_zero M ((S.2.1 : Int) + 1)) = z_W C S M ++ [(C.1 + S.2.1, z_ob C kd fun _ => 0)] := by
  unfold z_W z_push
  rw [List.range_succ, List.map_append]
  congr 1
  · apply List.map_congr_left
    intro i hi
    have hi := List.mem_range.mp hi
    have h1 : ¬ ((i : Int) + 1 = (S.2.1 : Int) + 1) := by omega
    have h2 : z_zero M ((S.2.1 : Int) + 1) ((i : Int) + 1) = M ((i : Int) + 1) := by
      funext b
      unfold z_zero
      rw [if_neg h1]
    simp only [if_neg h1, h2]
  · have h2 : z_zero M ((S.2.1 : Int) + 1) ((S.2.1 : Int) + 1) = fun _ => 0 := by
      funext b
      unfold z_zero
      rw [if_pos rfl]
    simp [h2]
theorem z_okM_push {S : zS} {M : zM} {kd : Nat × Nat} (h : z_okM S M) : z_okM (z_push S kd) (z_zero M ((S.2.1 : Int) + 1)) := by
  intro a b h1 h2 hk
  unfold z_zero
  split
  · exact zn_in0
  · next n =>
    have h3 : a ≤ (S.2.1 : Int) + 1 := by
      have : ((z_push S kd).2.1 : Int) = (S.2.1 : Int) + 1 := by unfold z_push; simp
      omega
    refine h a b h1 (by omega) ?_
    simpa [z_push, n] using hk
/-- a new cell at the heap's end -/
theorem z_pushP {C : zC} {S : zS} {M : zM} {s : State} {kd : Nat × Nat} {H H1 : Heap} {locs : List Loc} (hP : va_P C.2.2.1 z_cl (z_W C S M) H) (hS : va_S (z_A C) s.heap H locs) (hsz : H.size = C.1 + S.2.1) (z1 : H1.size = H.size + 1) (o1 : ∀ q, q < H.size → H1[q]? = H[q]?)
    (hat : va_at C.2.2.1 z_cl (C.1 + S.2.1, z_ob C kd fun _ => 0) H1) :
    va_P C.2.2.1 z_cl (z_W C (z_push S kd) (z_zero M ((S.2.1 : Int) + 1))) H1 ∧ va_S (z_A C) s.heap H1 locs ∧ H1.size = C.1 + (S.2.1 + 1) := by
  refine ⟨?_, ⟨Nat.le_trans hS.1 (by omega), fun x h1 h2 => (o1 x (Nat.lt_of_lt_of_le h1 hS.1)).trans (hS.2.1 x h1 h2), hS.2.2⟩, by omega⟩
  rw [z_W_push]
  refine (hP.kept (fun k x hx => o1 x.1 ((hP k x hx).lt))).app (fun k x hx => ?_)
  have hz : k < 1 := (List.getElem?_eq_some_iff.mp hx).1
  rw [show k = 0 by omega] at hx
  cases hx
  exact hat
/-- a class that is made: its link, its words -/
def z_New (own : String) (idx c n : Nat) : Prop := c < 10 ∧ ∃ (Cn : String) (T : u_T) (tyf : Nat → FieldType), z_cl[c]? = some (Cn, T, n) ∧ Cond.classLink own idx Cn ∈ z_all ∧ Cond.instantiable Cn n ∈ z_all ∧ Cond.initialized Cn ∈ z_all ∧ (∀ w ∈ u_ws Cn T n, w ∈ z_all) ∧ (∀ k, k < n → parseFieldDescriptor (T k).2.2.1 = some (tyf k)) ∧ (∀ k, k < n → ∃ t, (z_tags.getD c [])[k]? = some t ∧ ∀ C, defaultValue (tyf k) = z_cv C (t, 0))
theorem zr_new {own : String} {idx c n : Nat} (F : z_New own idx c n) (hd : decode Y.2.1 pc = .ok (.new idx, 3)) (ho : Y.1.cls = own) (hq : pc + 3 = q) (hS1 : S.1 = true) (hb1 : 1 ≤ bc) (hb2 : n ≤ bs) (hin : z_in ((S.2.1 : Int) + 1))
    (kk : z_Ex Y (z_push S (c, 0)) q ls ((1, (S.2.1 : Int) + 1) :: st) (z_zero M ((S.2.1 : Int) + 1)) (bc - 1) (bs - n) Q) : z_Ex Y S pc ls st M bc bs Q := by
  intro C p l e s m args below meth cc H locs cells slots lsA F0' St
  obtain ⟨hx, hb, hr, hml, hown, hts, hnm, hlk, hex, hst, hbase, hK, hKC, hCX⟩ := id F0'
  obtain ⟨hl, hP, hS, hsz, hokM, hokl, hoks, hc1, hc2⟩ := id St
  obtain ⟨hc10, Cn, T, tyf, e1, e2, e3, e4, e5, e6, e7⟩ := F
  subst ho; subst hq
  have hKn := hK.1 c _ e1
  have hsz := hsz hS1
  have hrc : cells + 1 ≤ (z_rm Y).cells := by show cells + 1 ≤ Y.2.2.2.2.2.1; omega
  have hrs : slots + n ≤ (z_rm Y).slots := by show slots + n ≤ Y.2.2.2.2.2.2.1; omega
  refine W.newcK hx hb hown (hts _ e2) (hts _ e3) (hts _ e4) rfl hd hrc hrs hKn.2.1 hsz fun H1 kC hkC g1 z1 o1 => ?_
  obtain ⟨a1, a2, a3⟩ := z_pushP (kd := (c, 0)) hP hS hsz (z1.trans (by omega)) (fun x hx => o1 x (by omega)) (by
    rw [z_ob_cls hc10]
    refine ⟨_, e1, (u_born tyf hts e5 hKn hkC g1 e6).to (fun j hj => ?_)⟩
    obtain ⟨t, t1, t2⟩ := e7 j hj
    rw [t2 C]
    show _ = vp_V _ _
    unfold vp_V
    rw [List.getD_eq_getElem?_getD]
    have t3 := z_fs_get (C := C) (f := fun _ => 0) t1
    dsimp only at t3 ⊢
    rw [t3]
    rfl)
  have e9 : (Value.ref (C.1 + S.2.1)) = z_cv C (1, (S.2.1 : Int) + 1) := by
    show _ = va_rf (z_rf C ((S.2.1 : Int) + 1))
    rw [z_rf_pos (by omega)]
    congr 1
  rw [e9]
  refine kk C p l e s m args below meth cc H1 locs (cells + 1) (slots + n) lsA F0' ⟨hl, a1, a2, fun _ => a3, z_okM_push hokM, hokl, z_okc (fun _ => hin) hoks, ?_, ?_⟩
  · omega
  · omega
def z_elk : FieldType → Nat := fun t => match t with
  | .int => 10
  | .boolean => 11
  | .char => 12
  | .long => 13
  | _ => 14
theorem z_arrK {C : zC} {s : State} {ty : FieldType} {k : Nat} {cA c2 : ClassId} (hK : va_K C.2.2.1 z_cl (z_tys C) s) (hk : (z_tys C)[k]? = some (c2, ty)) (hno : ∀ n, ty ≠ .object n) (h : s.vm.findClass ("[" ++ ty.toString) = some cA) : cA = c2 := by
  have h2 := (hK.2 k _ hk).2
  cases ty with
  | object n => exact absurd rfl (hno n)
  | _ => exact Option.some.inj (h.symm.trans h2)
theorem zr_newa {at9 : ArrayType} {ty : FieldType} {n : Int} {nn kd : Nat} (hty : newarray.typeOf at9 = ty) (hkd : (ty = .int ∧ kd = 10) ∨ (ty = .boolean ∧ kd = 11) ∨ (ty = .char ∧ kd = 12) ∨ (ty = .long ∧ kd = 13) ∨ (ty = .double ∧ kd = 14)) (harr : Cond.arrayClass ty ∈ z_all) (hd : decode Y.2.1 pc = .ok (.newarray at9, 2)) (hq : pc + 2 = q) (hn : n = (nn : Int)) (hnn : nn ≤ 100000) (hS1 : S.1 = true) (hb1 : 1 ≤ bc) (hb2 : nn ≤ bs) (hin : z_in ((S.2.1 : Int) + 1))
    (kk : z_Ex Y (z_push S (kd, nn)) q ls ((1, (S.2.1 : Int) + 1) :: st) (z_zero M ((S.2.1 : Int) + 1)) (bc - 1) (bs - nn) Q) : z_Ex Y S pc ls ((0, n) :: st) M bc bs Q := by
  intro C p l e s m args below meth cc H locs cells slots lsA F0' St
  obtain ⟨hx, hb, hr, hml, hown, hts, hnm, hlk, hex, hst, hbase, hK, hKC, hCX⟩ := id F0'
  obtain ⟨hl, hP, hS, hsz, hokM, hokl, hoks, hc1, hc2⟩ := id St
  subst hq; subst hn; subst hty
  have hsz := hsz hS1
  have hrc : cells + 1 ≤ (z_rm Y).cells := by show cells + 1 ≤ Y.2.2.2.2.2.1; omega
  have hrs : slots + nn ≤ (z_rm Y).slots := by show slots + nn ≤ Y.2.2.2.2.2.2.1; omega
  have hni : z_in (nn : Int) := ⟨by omega, by omega⟩
  refine va_newaK hx hb (atype := at9) (N := nn) (n := Int32.ofInt (nn : Int)) (hts _ harr) rfl hd rfl (by rw [zn_lt0 hni]; omega) (by rw [zn_clamp hni]; omega) ?_ hrc hrs hsz fun H1 cA g1 z1 o1 hAr hNm => ?_
  · rcases hkd with ⟨e, -⟩ | ⟨e, -⟩ | ⟨e, -⟩ | ⟨e, -⟩ | ⟨e, -⟩ <;> rw [e] <;> simp [componentBytes] <;> omega
  obtain ⟨a1, a2, a3⟩ := z_pushP (kd := (kd, nn)) hP hS hsz (z1.trans (by omega)) (fun x hx => o1 x (by omega)) (by
    rcases hkd with ⟨e, rfl⟩ | ⟨e, rfl⟩ | ⟨e, rfl⟩ | ⟨e, rfl⟩ | ⟨e, rfl⟩
    · rw [e] at g1 hNm; rw [z_arrK (k := 0) hK rfl (fun n h => by cases h) hNm] at g1; exact g1
    · rw [e] at g1 hNm; rw [z_arrK (k := 1) hK rfl (fun n h => by cases h) hNm] at g1; exact g1
    · rw [e] at g1 hNm; rw [z_arrK (k := 2) hK rfl (fun n h => by cases h) hNm] at g1; exact g1
    · rw [e] at g1 hNm; rw [z_arrK (k := 3) hK rfl (fun n h => by cases h) hNm] at g1; exact g1
    · rw [e] at g1 hNm; rw [z_arrK (k := 4) hK rfl (fun n h => by cases h) hNm] at g1; exact g1)
  have e9 : (Value.ref (C.1 + S.2.1)) = z_cv C (1, (S.2.1 : Int) + 1) := by
    show _ = va_rf (z_rf C ((S.2.1 : Int) + 1))
    rw [z_rf_pos (by omega)]
    congr 1
  rw [e9]
  refine kk C p l e s m args below meth cc H1 locs (cells + 1) (slots + nn) lsA F0' ⟨hl, a1, a2, fun _ => a3, z_okM_push hokM, hokl, z_okc (fun _ => hin) (z_ok1 hoks).2, ?_, ?_⟩
  · omega
  · omega
/-- arrayOver is no good word: it is had from the tables' words -/
theorem zr_newq {own : String} {idx nn kd c : Nat} {n : Int} (hkd : (kd = 15 ∧ c = 0) ∨ (kd = 16 ∧ c = 1) ∨ (kd = 17 ∧ c = 6)) (hlink : ∀ r, z_cl[c]? = some r → Cond.classLink own idx r.1 ∈ z_all) (hover : ∀ r, z_cl[c]? = some r → Cond.arrayOver (.object r.1) ∈ z_all) (hd : decode Y.2.1 pc = .ok (.anewarray idx, 3)) (ho : Y.1.cls = own) (hq : pc + 3 = q) (hn : n = (nn : Int)) (hnn : nn ≤ 100000) (hS1 : S.1 = true) (hb1 : 1 ≤ bc) (hb2 : nn ≤ bs) (hin : z_in ((S.2.1 : Int) + 1))
    (kk : z_Ex Y (z_push S (kd, nn)) q ls ((1, (S.2.1 : Int) + 1) :: st) (z_zero M ((S.2.1 : Int) + 1)) (bc - 1) (bs - nn) Q) : z_Ex Y S pc ls ((0, n) :: st) M bc bs Q := by
  intro C p l e s m args below meth cc H locs cells slots lsA F0' St
  obtain ⟨hx, hb, hr, hml, hown, hts, hnm, hlk, hex, hst, hbase, hK, hKC, hCX⟩ := id F0'
  obtain ⟨hl, hP, hS, hsz, hokM, hokl, hoks, hc1, hc2⟩ := id St
  subst hq; subst hn; subst ho
  have hsz := hsz hS1
  have hrc : cells + 1 ≤ (z_rm Y).cells := by show cells + 1 ≤ Y.2.2.2.2.2.1; omega
  have hrs : slots + nn ≤ (z_rm Y).slots := by show slots + nn ≤ Y.2.2.2.2.2.2.1; omega
  have hni : z_in (nn : Int) := ⟨by omega, by omega⟩
  obtain ⟨r, hr0⟩ : ∃ r, z_cl[c]? = some r := by rcases hkd with ⟨-, rfl⟩ | ⟨-, rfl⟩ | ⟨-, rfl⟩ <;> exact ⟨_, rfl⟩
  have ecl : (Int32.ofInt (nn : Int)).toNatClampNeg = nn := by rw [zn_clamp hni]; omega
  refine W.anew hx hb hown (hts _ (hlink r hr0)) (hts _ (hover r hr0)) rfl hd rfl (by rw [zn_lt0 hni]; omega) (by rw [ecl]; omega) hrc (by rw [ecl]; exact hrs) fun cA kA comp f1 f2 f3 f4 => ?_
  rw [ecl]
  generalize hH1 : H.push ({ cls := cA, slots := Array.replicate nn .null, vm := .none } : Cell) = H1
  have z1 : H1.size = H.size + 1 := by rw [← hH1, Array.size_push]
  have g1 : H1[H.size]? = some (arrV cA nn (fun _ => .null)) := by rw [← hH1, Array.getElem?_push_size, ← arrV_new]
  have o1 : ∀ q : Nat, q < H.size → H1[q]? = H[q]? := fun q hq => by rw [← hH1, Array.getElem?_push, if_neg (Nat.ne_of_lt hq)]
  obtain ⟨a1, a2, a3⟩ := z_pushP (kd := (kd, nn)) hP hS hsz z1 o1 (by
    rw [hsz] at g1
    rcases hkd with ⟨rfl, rfl⟩ | ⟨rfl, rfl⟩ | ⟨rfl, rfl⟩ <;> cases hr0
    · obtain ⟨_, _, _, _, _, u4⟩ := (hK.2 5 _ rfl).2
      cases Option.some.inj (f1.symm.trans u4); exact g1
    · obtain ⟨_, _, _, _, _, u4⟩ := (hK.2 6 _ rfl).2
      cases Option.some.inj (f1.symm.trans u4); exact g1
    · obtain ⟨_, _, _, _, _, u4⟩ := (hK.2 7 _ rfl).2
      cases Option.some.inj (f1.symm.trans u4); exact g1)
  rw [hsz]
  have e9 : (Value.ref (C.1 + S.2.1)) = z_cv C (1, (S.2.1 : Int) + 1) := by
    show _ = va_rf (z_rf C ((S.2.1 : Int) + 1))
    rw [z_rf_pos (by omega)]
    congr 1
  rw [e9]
  refine kk C p l e s m args below meth cc H1 locs (cells + 1) (slots + nn) lsA F0' ⟨hl, a1, a2, fun _ => a3, z_okM_push hokM, hokl, z_okc (fun _ => hin) (z_ok1 hoks).2, ?_, ?_⟩
  · omega
  · omega
end ZN
