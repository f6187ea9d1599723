/-! dep: 20 -/
/-! ===== more rules of the logic ===== -/
section ZMO
variable {Y : zY} {S : zS} {pc : Nat} {ls st : List zV} {M : zM} {bc bs : Nat} {Q : zV → zS → zM → Prop}
theorem z_lv_sub {C : zC} {ls : List zV} (i : Nat) : ∀ q ∈ z_lv C (ls.set i (9, 0)), q ∈ z_lv C ls := by
  intro q hq
  obtain ⟨w, h1, h2, h3⟩ := z_lv_of hq
  obtain ⟨k, v⟩ := q
  dsimp only at h1 h3
  subst h3
  by_cases hi : i = k
  · subst hi
    rw [List.getElem?_set] at h1
    simp at h1
    obtain ⟨_, rfl⟩ := h1
    exact absurd rfl h2
  · rw [List.getElem?_set_ne hi] at h1
    exact z_lv_mem h1 h2
/-- a local is forgotten -/
theorem zr_drop (i : Nat) (kk : z_Ex Y S pc (ls.set i (9, 0)) st M bc bs Q) : z_Ex Y S pc ls st M bc bs Q := by
  intro C p l e s m args below meth cc H locs cells slots lsA F St
  obtain ⟨hl, hP, hS, hsz, hokM, hokl, hoks, hc1, hc2⟩ := id St
  refine kk C p l e s m args below meth cc H locs cells slots lsA F ⟨z_has_sub hl (z_lv_sub i), hP, hS, hsz, hokM, fun v hv => ?_, hoks, hc1, hc2⟩
  obtain ⟨k, hk⟩ := List.getElem?_of_mem hv
  by_cases hi : i = k
  · subst hi
    rw [List.getElem?_set] at hk
    simp at hk
    obtain ⟨_, rfl⟩ := hk
    intro h
    exact absurd h (by decide)
  · rw [List.getElem?_set_ne hi] at hk
    exact hokl v (List.mem_of_getElem? hk)
/-- less to spend -/
theorem zr_less {bc' bs' : Nat} (h1 : bc' ≤ bc) (h2 : bs' ≤ bs) (kk : z_Ex Y S pc ls st M bc' bs' Q) : z_Ex Y S pc ls st M bc bs Q := by
  intro C p l e s m args below meth cc H locs cells slots lsA F St
  obtain ⟨hl, hP, hS, hsz, hokM, hokl, hoks, hc1, hc2⟩ := id St
  exact kk C p l e s m args below meth cc H locs cells slots lsA F ⟨hl, hP, hS, hsz, hokM, hokl, hoks, by omega, by omega⟩
/-- what stands in the memory is an int -/
theorem zr_inM (z j : Int) (h0 : 0 < z) (h1 : z ≤ S.2.1) (h2 : (S.2.2 z).1 ≠ 14) (kk : z_in (M z j) → z_Ex Y S pc ls st M bc bs Q) : z_Ex Y S pc ls st M bc bs Q := by
  intro C p l e s m args below meth cc H locs cells slots lsA F St
  obtain ⟨hl, hP, hS, hsz, hokM, hokl, hoks, hc1, hc2⟩ := id St
  exact kk (hokM z j h0 h1 h2) C p l e s m args below meth cc H locs cells slots lsA F St
/-- so does what stands in a local -/
theorem zr_inL (i : Nat) {x : Int} (h0 : ls[i]? = some (0, x)) (kk : z_in x → z_Ex Y S pc ls st M bc bs Q) : z_Ex Y S pc ls st M bc bs Q := by
  intro C p l e s m args below meth cc H locs cells slots lsA F St
  obtain ⟨hl, hP, hS, hsz, hokM, hokl, hoks, hc1, hc2⟩ := id St
  exact kk (z_oki (hokl _ (List.mem_of_getElem? h0))) C p l e s m args below meth cc H locs cells slots lsA F St
end ZMO
theorem k1 : zO 1 8 := ⟨by decide, by decide, by decide +kernel⟩
theorem k134 : zO 134 3 := ⟨by decide, by decide, by decide +kernel⟩
theorem k135 : zR 135 15 8 := ⟨by decide, by decide, by decide +kernel⟩
theorem k488 : zO 488 2 := ⟨by decide, by decide, by decide +kernel⟩
theorem k489 : zR 489 17 8 := ⟨by decide, by decide, by decide +kernel⟩
theorem k506 : zO 506 4 := ⟨by decide, by decide, by decide +kernel⟩
theorem k507 : zR 507 10 20 := ⟨by decide, by decide, by decide +kernel⟩
theorem k508 : zO 508 6 := ⟨by decide, by decide, by decide +kernel⟩
theorem k509 : zR 509 10 8 := ⟨by decide, by decide, by decide +kernel⟩
theorem k510 : zR 510 10 8 := ⟨by decide, by decide, by decide +kernel⟩
theorem k511 : zO 511 7 := ⟨by decide, by decide, by decide +kernel⟩
theorem k512 : zR 512 12 60 := ⟨by decide, by decide, by decide +kernel⟩
theorem k514 : zO 514 7 := ⟨by decide, by decide, by decide +kernel⟩
theorem k515 : zR 515 12 60 := ⟨by decide, by decide, by decide +kernel⟩
theorem k513 : zO 513 5 := ⟨by decide, by decide, by decide +kernel⟩
theorem k516 : zR 516 10 30 := ⟨by decide, by decide, by decide +kernel⟩
theorem k529 : zR 529 13 1 := ⟨by decide, by decide, by decide +kernel⟩
theorem k530 : zR 530 14 1 := ⟨by decide, by decide, by decide +kernel⟩
theorem as2 : zAs 2 := Or.inl rfl
theorem as46 : zAs 46 := Or.inr (Or.inl rfl)
theorem as90 : zAs 90 := Or.inr (Or.inr (Or.inl rfl))
theorem k2 : zO 2 0 := zAs_0 as2
theorem k46 : zO 46 0 := zAs_0 as46
theorem k90 : zO 90 0 := zAs_0 as90
section ZGG
variable {Y : zY} {pc q : Nat} {ls st : List zV} {M : zM} {bc bs : Nat} {Q : zV → zS → zM → Prop}
theorem zf_getG {own : String} {idx c k t : Nat} {z v : Int} (j : Int) (O : zO z c) (hv : M z j = v) (hj : ((k : Nat) : Int) = j) (F : z_Fld own idx c k t) (hd : decode Y.2.1 pc = .ok (.getfield idx, 3)) (ho : Y.1.cls = own) (hq : pc + 3 = q) (kk : z_Ex Y zF q ls ((t, v) :: st) M bc bs Q) : z_Ex Y zF pc ls ((1, z) :: st) M bc bs Q := zf_getf O (by rw [hj]; exact hv) F hd ho hq kk
theorem zf_putG {own : String} {idx c k t : Nat} {ty : FieldType} {z x : Int} (j : Int) (O : zO z c) (hj : ((k : Nat) : Int) = j) (F : z_FldP own idx c k t ty) (hd : decode Y.2.1 pc = .ok (.putfield idx, 3)) (ho : Y.1.cls = own) (hq : pc + 3 = q) (ht : t ≤ 2) (hfit : z_fit ty (t, x)) (kk : z_Ex Y zF q ls st (z_up M z j x) bc bs Q) : z_Ex Y zF pc ls ((t, x) :: (1, z) :: st) M bc bs Q := by
  subst hj
  exact zf_putf O F hd ho hq ht hfit kk
end ZGG
