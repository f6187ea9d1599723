/-! dep: 20 -/
/-! ===== more rules of the logic ===== -/
section ZMO
variable {Y : zY} {S : zS} {pc : Nat} {ls st : List zV} {M : zM} {bc bs : Nat} {Q : zV → zS → zM → Prop}
theorem z_lv_sub {C : zC} {ls : List zV} (i : Nat) : ∀ q ∈ z_lv C (ls.set i (9, 0)), q ∈ z_lv C ls := by
  intro q hq
  obtain ⟨w, h1, h2, h3⟩ := z_lv_of hq
  obtain ⟨k, v⟩ := q
  dsimp only at h1 h3
  subst h3
  by_cases hi : i = k
  · subst hi
    rw [List.getElem?_set] at h1
    simp at h1
    obtain ⟨_, rfl⟩ := h1
    exact absurd rfl h2
  · rw [List.getElem?_set_ne hi] at h1
    exact z_lv_mem h1 h2
/-- a local is forgotten -/
theorem zr_drop (i : Nat) (kk : z_Ex Y S pc (ls.set i (9, 0)) st M bc bs Q) : z_Ex Y S pc ls st M bc bs Q := by
  intro C p l e s m args below meth cc H locs cells slots lsA F St
  obtain ⟨hl, hP, hS, hsz, hokM, hokl, hoks, hc1, hc2⟩ := id St
  refine kk C p l e s m args below meth cc H locs cells slots lsA F ⟨z_has_sub hl (z_lv_sub i), hP, hS, hsz, hokM, fun v hv => ?_, hoks, hc1, hc2⟩
  obtain ⟨k, hk⟩ := List.getElem?_of_mem hv
  by_cases hi : i = k
  · subst hi
    rw [List.getElem?_set] at hk
    simp at hk
    obtain ⟨_, rfl⟩ := hk
    intro h
    exact absurd h (by decide)
  · rw [List.getElem?_set_ne hi] at hk
    exact hokl v (List.mem_of_getElem? hk)
/-- less to spend -/
theorem zr_less {bc' bs' : Nat} (h1 : bc' ≤ bc) (h2 : bs' ≤ bs) (kk : z_Ex Y S pc ls st M bc' bs' Q) : z_Ex Y S pc ls st M bc bs Q := by
  intro C p l e s m args below meth cc H locs cells slots lsA F St
  obtain ⟨hl, hP, hS, hsz, hokM, hokl, hoks, hc1, hc2⟩ := id St
  exact kk C p l e s m args below meth cc H locs cells slots lsA F ⟨hl, hP, hS, hsz, hokM, hokl, hoks, by omega, by omega⟩
/-- what stands in the memory is an int -/
theorem zr_inM (z j : Int) (h0 : 0 < z) (h1 : z ≤ S.2.1) (h2 : (S.2.2 z).1 ≠ 14) (kk : z_in (M z j) → z_Ex Y S pc ls st M bc bs Q) : z_Ex Y S pc ls st M bc bs Q := by
  intro C p l e s m args below meth cc H locs cells slots lsA F St
  obtain ⟨hl, hP, hS, hsz, hokM, hokl, hoks, hc1, hc2⟩ := id St
  exact kk (hokM z j h0 h1 h2) C p l e s m args below meth cc H locs cells slots lsA F St
/-- so does what stands in a local -/
theorem zr_inL (i : Nat) {x : Int} (h0 : ls[i]? = some (0, x)) (kk : z_in x → z_Ex Y S pc ls st M bc bs Q) : z_Ex Y S pc ls st M bc bs Q := by
  intro C p l e s m args below meth cc H locs cells slots lsA F St
  obtain ⟨hl, hP, hS, hsz, hokM, hokl, hoks, hc1, hc2⟩ := id St
  exact kk (z_oki (hokl _ (List.mem_of_getElem? h0))) C p l e s m args below meth cc H locs cells slots lsA F St
end ZMO
