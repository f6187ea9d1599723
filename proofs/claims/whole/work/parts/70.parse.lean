/-! ===== what a text of commands is ===== -/
/-- the character at a place; -1: none -/
def zCh9 (L : List Int) (p : Int) : Int := if 0 ≤ p ∧ p < L.length then L.getD p.toNat 0 else -1
theorem zCh9_in {L : List Int} {p : Int} (h0 : 0 ≤ p) (h1 : p < L.length) : zCh9 L p = L.getD p.toNat 0 := if_pos ⟨h0, h1⟩
theorem zCh9_out {L : List Int} {p : Int} (h : ¬ (0 ≤ p ∧ p < L.length)) : zCh9 L p = -1 := if_neg h
/-- how many letters of a word stand from p on -/
def zMt9 (c : Int → Int) : List Int → Int → Int
  | [], _ => 0
  | x :: xs, p => if c p = x then 1 + zMt9 c xs (p + 1) else 0
theorem zMt9_range (c : Int → Int) : ∀ (w : List Int) (p : Int), 0 ≤ zMt9 c w p ∧ zMt9 c w p ≤ w.length := by
  intro w
  induction w with
  | nil => intro p; exact ⟨by unfold zMt9; omega, by unfold zMt9; simp⟩
  | cons x xs ih =>
    intro p
    have := ih (p + 1)
    unfold zMt9
    rw [List.length_cons]
    split <;> omega
theorem zMt9_c (c : Int → Int) (x : Int) (xs : List Int) (p : Int) : zMt9 c (x :: xs) p = if c p = x then 1 + zMt9 c xs (p + 1) else 0 := rfl
def zWl : List (List Int) := [[119, 105, 110, 100], [119, 105, 116, 104, 100, 114, 97, 119], [98, 97, 108, 108, 111, 116], [114, 97, 110, 107], [114, 101, 109, 111, 118, 101], [114, 101, 99, 111, 117, 110, 116], [115, 112, 105, 110], [99, 101, 114, 116, 105, 102, 121]]
def zWw (c : Int → Int) (p : Int) : Int :=
  if c p = 98 then (if zMt9 c [97, 108, 108, 111, 116] (p + 1) = 5 then 2 else -1)
  else if c p = 115 then (if zMt9 c [112, 105, 110] (p + 1) = 3 then 6 else -1)
  else if c p = 99 then (if zMt9 c [101, 114, 116, 105, 102, 121] (p + 1) = 6 then 7 else -1)
  else if c p = 114 then (if c (p + 1) = 97 then (if zMt9 c [110, 107] (p + 2) = 2 then 3 else -1) else if c (p + 1) = 101 then (if c (p + 2) = 109 then (if zMt9 c [111, 118, 101] (p + 3) = 3 then 4 else -1) else if c (p + 2) = 99 then (if zMt9 c [111, 117, 110, 116] (p + 3) = 4 then 5 else -1) else -1) else -1)
  else if c p = 119 then (if c (p + 1) = 105 then (if c (p + 2) = 110 then (if zMt9 c [100] (p + 3) = 1 then 0 else -1) else if c (p + 2) = 116 then (if zMt9 c [104, 100, 114, 97, 119] (p + 3) = 5 then 1 else -1) else -1) else -1)
  else -1
def zWa (c : Int → Int) (p : Int) : Int :=
  if c p = 98 then 1 + zMt9 c [97, 108, 108, 111, 116] (p + 1)
  else if c p = 115 then 1 + zMt9 c [112, 105, 110] (p + 1)
  else if c p = 99 then 1 + zMt9 c [101, 114, 116, 105, 102, 121] (p + 1)
  else if c p = 114 then (if c (p + 1) = 97 then 2 + zMt9 c [110, 107] (p + 2) else if c (p + 1) = 101 then (if c (p + 2) = 109 then 3 + zMt9 c [111, 118, 101] (p + 3) else if c (p + 2) = 99 then 3 + zMt9 c [111, 117, 110, 116] (p + 3) else 2) else 1)
  else if c p = 119 then (if c (p + 1) = 105 then (if c (p + 2) = 110 then 3 + zMt9 c [100] (p + 3) else if c (p + 2) = 116 then 3 + zMt9 c [104, 100, 114, 97, 119] (p + 3) else 2) else 1)
  else 0
def zMk (c : Int → Int) (p : Int) (k : Nat) : Int := zMt9 c (zWl.getD k []) p
theorem zMk_all (c : Int → Int) (p : Int) : zMk c p 0 = (if c p = 119 then 1 + (if c (p + 1) = 105 then 1 + (if c (p + 2) = 110 then 1 + zMt9 c [100] (p + 3) else 0) else 0) else 0) ∧
    zMk c p 1 = (if c p = 119 then 1 + (if c (p + 1) = 105 then 1 + (if c (p + 2) = 116 then 1 + zMt9 c [104, 100, 114, 97, 119] (p + 3) else 0) else 0) else 0) ∧
    zMk c p 2 = (if c p = 98 then 1 + zMt9 c [97, 108, 108, 111, 116] (p + 1) else 0) ∧
    zMk c p 3 = (if c p = 114 then 1 + (if c (p + 1) = 97 then 1 + zMt9 c [110, 107] (p + 2) else 0) else 0) ∧
    zMk c p 4 = (if c p = 114 then 1 + (if c (p + 1) = 101 then 1 + (if c (p + 2) = 109 then 1 + zMt9 c [111, 118, 101] (p + 3) else 0) else 0) else 0) ∧
    zMk c p 5 = (if c p = 114 then 1 + (if c (p + 1) = 101 then 1 + (if c (p + 2) = 99 then 1 + zMt9 c [111, 117, 110, 116] (p + 3) else 0) else 0) else 0) ∧
    zMk c p 6 = (if c p = 115 then 1 + zMt9 c [112, 105, 110] (p + 1) else 0) ∧
    zMk c p 7 = (if c p = 99 then 1 + zMt9 c [101, 114, 116, 105, 102, 121] (p + 1) else 0) := by
  have e2 : p + 1 + 1 = p + 2 := by omega
  have e3 : p + 2 + 1 = p + 3 := by omega
  refine ⟨?_, ?_, rfl, ?_, ?_, ?_, rfl, rfl⟩
  · show zMt9 c [119, 105, 110, 100] p = _
    rw [zMt9_c, zMt9_c, zMt9_c, e2, e3]
  · show zMt9 c [119, 105, 116, 104, 100, 114, 97, 119] p = _
    rw [zMt9_c, zMt9_c, zMt9_c, e2, e3]
  · show zMt9 c [114, 97, 110, 107] p = _
    rw [zMt9_c, zMt9_c, e2]
  · show zMt9 c [114, 101, 109, 111, 118, 101] p = _
    rw [zMt9_c, zMt9_c, zMt9_c, e2, e3]
  · show zMt9 c [114, 101, 99, 111, 117, 110, 116] p = _
    rw [zMt9_c, zMt9_c, zMt9_c, e2, e3]
/-- the longest of the words' beginnings, below k -/
def zLg (c : Int → Int) (p : Int) : Nat → Int
  | 0 => 0
  | k + 1 => if zLg c p k < zMk c p k then zMk c p k else zLg c p k
def zWn9 (k : Nat) : Int := ([4, 8, 6, 4, 6, 7, 4, 7] : List Int).getD k 0
theorem zW_rg (c : Int → Int) (p : Int) : (0 ≤ zMt9 c [100] (p + 3) ∧ zMt9 c [100] (p + 3) ≤ 1) ∧ (0 ≤ zMt9 c [104, 100, 114, 97, 119] (p + 3) ∧ zMt9 c [104, 100, 114, 97, 119] (p + 3) ≤ 5) ∧ (0 ≤ zMt9 c [97, 108, 108, 111, 116] (p + 1) ∧ zMt9 c [97, 108, 108, 111, 116] (p + 1) ≤ 5) ∧
    (0 ≤ zMt9 c [110, 107] (p + 2) ∧ zMt9 c [110, 107] (p + 2) ≤ 2) ∧ (0 ≤ zMt9 c [111, 118, 101] (p + 3) ∧ zMt9 c [111, 118, 101] (p + 3) ≤ 3) ∧ (0 ≤ zMt9 c [111, 117, 110, 116] (p + 3) ∧ zMt9 c [111, 117, 110, 116] (p + 3) ≤ 4) ∧ (0 ≤ zMt9 c [112, 105, 110] (p + 1) ∧ zMt9 c [112, 105, 110] (p + 1) ≤ 3) ∧ (0 ≤ zMt9 c [101, 114, 116, 105, 102, 121] (p + 1) ∧ zMt9 c [101, 114, 116, 105, 102, 121] (p + 1) ≤ 6) :=
  ⟨zMt9_range c _ _, zMt9_range c _ _, zMt9_range c _ _, zMt9_range c _ _, zMt9_range c _ _, zMt9_range c _ _, zMt9_range c _ _, zMt9_range c _ _⟩
/-- a word that is there whole -/
theorem zW_yes (c : Int → Int) (p : Int) {k : Nat} (hk : k < 8) (h : zMk c p k = zWn9 k) : zWw c p = k ∧ zWa c p = zWn9 k := by
  obtain ⟨m0, m1, m2, m3, m4, m5, m6, m7⟩ := zMk_all c p
  have rg := zW_rg c p
  unfold zWw zWa
  match k, hk with
  | 0, _ => rw [m0] at h; have h4 : zWn9 0 = 4 := rfl; rw [h4] at h ⊢; constructor <;> omega
  | 1, _ => rw [m1] at h; have h4 : zWn9 1 = 8 := rfl; rw [h4] at h ⊢; constructor <;> omega
  | 2, _ => rw [m2] at h; have h4 : zWn9 2 = 6 := rfl; rw [h4] at h ⊢; constructor <;> omega
  | 3, _ => rw [m3] at h; have h4 : zWn9 3 = 4 := rfl; rw [h4] at h ⊢; constructor <;> omega
  | 4, _ => rw [m4] at h; have h4 : zWn9 4 = 6 := rfl; rw [h4] at h ⊢; constructor <;> omega
  | 5, _ => rw [m5] at h; have h4 : zWn9 5 = 7 := rfl; rw [h4] at h ⊢; constructor <;> omega
  | 6, _ => rw [m6] at h; have h4 : zWn9 6 = 4 := rfl; rw [h4] at h ⊢; constructor <;> omega
  | 7, _ => rw [m7] at h; have h4 : zWn9 7 = 7 := rfl; rw [h4] at h ⊢; constructor <;> omega

theorem zLg_ge (c : Int → Int) (p : Int) : ∀ (n k : Nat), k < n → zMk c p k ≤ zLg c p n := by
  intro n
  induction n with
  | zero => intro k h; omega
  | succ n ih =>
    intro k h
    unfold zLg
    by_cases e : k = n
    · rw [e]; split <;> omega
    · have := ih k (by omega)
      split <;> omega
theorem zLg_le (c : Int → Int) (p v : Int) (hv : 0 ≤ v) : ∀ (n : Nat), (∀ k, k < n → zMk c p k ≤ v) → zLg c p n ≤ v := by
  intro n
  induction n with
  | zero => intro _; exact hv
  | succ n ih =>
    intro h
    unfold zLg
    have := ih (fun k hk => h k (by omega))
    have := h n (by omega)
    split <;> omega
theorem zLg_eq {c : Int → Int} {p v : Int} (hv : 0 ≤ v) (h0 : zMk c p 0 ≤ v) (h1 : zMk c p 1 ≤ v) (h2 : zMk c p 2 ≤ v) (h3 : zMk c p 3 ≤ v) (h4 : zMk c p 4 ≤ v) (h5 : zMk c p 5 ≤ v) (h6 : zMk c p 6 ≤ v) (h7 : zMk c p 7 ≤ v)
    (hx : v = 0 ∨ v = zMk c p 0 ∨ v = zMk c p 1 ∨ v = zMk c p 2 ∨ v = zMk c p 3 ∨ v = zMk c p 4 ∨ v = zMk c p 5 ∨ v = zMk c p 6 ∨ v = zMk c p 7) : v = zLg c p 8 := by
  have hle := zLg_le c p v hv 8 (fun k hk => by
    match k, hk with
    | 0, _ => exact h0
    | 1, _ => exact h1
    | 2, _ => exact h2
    | 3, _ => exact h3
    | 4, _ => exact h4
    | 5, _ => exact h5
    | 6, _ => exact h6
    | 7, _ => exact h7)
  have g0 := zLg_ge c p 8 0 (by omega)
  have g1 := zLg_ge c p 8 1 (by omega)
  have g2 := zLg_ge c p 8 2 (by omega)
  have g3 := zLg_ge c p 8 3 (by omega)
  have g4 := zLg_ge c p 8 4 (by omega)
  have g5 := zLg_ge c p 8 5 (by omega)
  have g6 := zLg_ge c p 8 6 (by omega)
  have g7 := zLg_ge c p 8 7 (by omega)
  have gz : 0 ≤ zMk c p 0 := (zMt9_range c _ p).1
  omega
theorem zW_no (c : Int → Int) (p : Int) (h : ∀ k, k < 8 → zMk c p k ≠ zWn9 k) : zWw c p = -1 ∧ zWa c p = zLg c p 8 := by
  obtain ⟨m0, m1, m2, m3, m4, m5, m6, m7⟩ := zMk_all c p
  obtain ⟨r0, r1, r2, r3, r4, r5, r6, r7⟩ := zW_rg c p
  have n0 : zMk c p 0 ≠ 4 := h 0 (by omega)
  have n1 : zMk c p 1 ≠ 8 := h 1 (by omega)
  have n2 : zMk c p 2 ≠ 6 := h 2 (by omega)
  have n3 : zMk c p 3 ≠ 4 := h 3 (by omega)
  have n4 : zMk c p 4 ≠ 6 := h 4 (by omega)
  have n5 : zMk c p 5 ≠ 7 := h 5 (by omega)
  have n6 : zMk c p 6 ≠ 4 := h 6 (by omega)
  have n7 : zMk c p 7 ≠ 7 := h 7 (by omega)
  clear h
  unfold zWw zWa
  by_cases e0 : c p = 98
  · rw [if_neg (by omega)] at m0
    rw [if_neg (by omega)] at m1
    rw [if_pos e0] at m2
    rw [if_neg (by omega)] at m3
    rw [if_neg (by omega)] at m4
    rw [if_neg (by omega)] at m5
    rw [if_neg (by omega)] at m6
    rw [if_neg (by omega)] at m7
    rw [if_pos e0, if_pos e0]
    rw [if_neg (by omega)]
    exact ⟨rfl, zLg_eq (by omega) (by omega) (by omega) (by omega) (by omega) (by omega) (by omega) (by omega) (by omega) (by omega)⟩
  have f98 := e0
  clear e0
  by_cases e0 : c p = 115
  · rw [if_neg (by omega)] at m0
    rw [if_neg (by omega)] at m1
    rw [if_neg (by omega)] at m2
    rw [if_neg (by omega)] at m3
    rw [if_neg (by omega)] at m4
    rw [if_neg (by omega)] at m5
    rw [if_pos e0] at m6
    rw [if_neg (by omega)] at m7
    rw [if_neg (show ¬ c p = 98 by omega), if_neg (show ¬ c p = 98 by omega)]
    rw [if_pos e0, if_pos e0]
    rw [if_neg (by omega)]
    exact ⟨rfl, zLg_eq (by omega) (by omega) (by omega) (by omega) (by omega) (by omega) (by omega) (by omega) (by omega) (by omega)⟩
  have f115 := e0
  clear e0
  by_cases e0 : c p = 99
  · rw [if_neg (by omega)] at m0
    rw [if_neg (by omega)] at m1
    rw [if_neg (by omega)] at m2
    rw [if_neg (by omega)] at m3
    rw [if_neg (by omega)] at m4
    rw [if_neg (by omega)] at m5
    rw [if_neg (by omega)] at m6
    rw [if_pos e0] at m7
    rw [if_neg (show ¬ c p = 98 by omega), if_neg (show ¬ c p = 98 by omega)]
    rw [if_neg (show ¬ c p = 115 by omega), if_neg (show ¬ c p = 115 by omega)]
    rw [if_pos e0, if_pos e0]
    rw [if_neg (by omega)]
    exact ⟨rfl, zLg_eq (by omega) (by omega) (by omega) (by omega) (by omega) (by omega) (by omega) (by omega) (by omega) (by omega)⟩
  have f99 := e0
  clear e0
  by_cases e0 : c p = 114
  · by_cases e1 : c (p + 1) = 97
    · rw [if_neg (by omega)] at m0
      rw [if_neg (by omega)] at m1
      rw [if_neg (by omega)] at m2
      rw [if_pos e0] at m3
      rw [if_pos e1] at m3
      rw [if_pos e0] at m4
      rw [if_neg (by omega)] at m4
      rw [if_pos e0] at m5
      rw [if_neg (by omega)] at m5
      rw [if_neg (by omega)] at m6
      rw [if_neg (by omega)] at m7
      rw [if_neg (show ¬ c p = 98 by omega), if_neg (show ¬ c p = 98 by omega)]
      rw [if_neg (show ¬ c p = 115 by omega), if_neg (show ¬ c p = 115 by omega)]
      rw [if_neg (show ¬ c p = 99 by omega), if_neg (show ¬ c p = 99 by omega)]
      rw [if_pos e0, if_pos e0]
      rw [if_pos e1, if_pos e1]
      rw [if_neg (by omega)]
      exact ⟨rfl, zLg_eq (by omega) (by omega) (by omega) (by omega) (by omega) (by omega) (by omega) (by omega) (by omega) (by omega)⟩
    have f1_97 := e1
    clear e1
    by_cases e1 : c (p + 1) = 101
    · by_cases e2 : c (p + 2) = 109
      · rw [if_neg (by omega)] at m0
        rw [if_neg (by omega)] at m1
        rw [if_neg (by omega)] at m2
        rw [if_pos e0] at m3
        rw [if_neg (by omega)] at m3
        rw [if_pos e0] at m4
        rw [if_pos e1] at m4
        rw [if_pos e2] at m4
        rw [if_pos e0] at m5
        rw [if_pos e1] at m5
        rw [if_neg (by omega)] at m5
        rw [if_neg (by omega)] at m6
        rw [if_neg (by omega)] at m7
        rw [if_neg (show ¬ c p = 98 by omega), if_neg (show ¬ c p = 98 by omega)]
        rw [if_neg (show ¬ c p = 115 by omega), if_neg (show ¬ c p = 115 by omega)]
        rw [if_neg (show ¬ c p = 99 by omega), if_neg (show ¬ c p = 99 by omega)]
        rw [if_pos e0, if_pos e0]
        rw [if_neg (show ¬ c (p + 1) = 97 by omega), if_neg (show ¬ c (p + 1) = 97 by omega)]
        rw [if_pos e1, if_pos e1]
        rw [if_pos e2, if_pos e2]
        rw [if_neg (by omega)]
        exact ⟨rfl, zLg_eq (by omega) (by omega) (by omega) (by omega) (by omega) (by omega) (by omega) (by omega) (by omega) (by omega)⟩
      have f2_109 := e2
      clear e2
      by_cases e2 : c (p + 2) = 99
      · rw [if_neg (by omega)] at m0
        rw [if_neg (by omega)] at m1
        rw [if_neg (by omega)] at m2
        rw [if_pos e0] at m3
        rw [if_neg (by omega)] at m3
        rw [if_pos e0] at m4
        rw [if_pos e1] at m4
        rw [if_neg (by omega)] at m4
        rw [if_pos e0] at m5
        rw [if_pos e1] at m5
        rw [if_pos e2] at m5
        rw [if_neg (by omega)] at m6
        rw [if_neg (by omega)] at m7
        rw [if_neg (show ¬ c p = 98 by omega), if_neg (show ¬ c p = 98 by omega)]
        rw [if_neg (show ¬ c p = 115 by omega), if_neg (show ¬ c p = 115 by omega)]
        rw [if_neg (show ¬ c p = 99 by omega), if_neg (show ¬ c p = 99 by omega)]
        rw [if_pos e0, if_pos e0]
        rw [if_neg (show ¬ c (p + 1) = 97 by omega), if_neg (show ¬ c (p + 1) = 97 by omega)]
        rw [if_pos e1, if_pos e1]
        rw [if_neg (show ¬ c (p + 2) = 109 by omega), if_neg (show ¬ c (p + 2) = 109 by omega)]
        rw [if_pos e2, if_pos e2]
        rw [if_neg (by omega)]
        exact ⟨rfl, zLg_eq (by omega) (by omega) (by omega) (by omega) (by omega) (by omega) (by omega) (by omega) (by omega) (by omega)⟩
      have f2_99 := e2
      clear e2
      rw [if_neg (by omega)] at m0
      rw [if_neg (by omega)] at m1
      rw [if_neg (by omega)] at m2
      rw [if_pos e0] at m3
      rw [if_neg (by omega)] at m3
      rw [if_pos e0] at m4
      rw [if_pos e1] at m4
      rw [if_neg (by omega)] at m4
      rw [if_pos e0] at m5
      rw [if_pos e1] at m5
      rw [if_neg (by omega)] at m5
      rw [if_neg (by omega)] at m6
      rw [if_neg (by omega)] at m7
      rw [if_neg (show ¬ c p = 98 by omega), if_neg (show ¬ c p = 98 by omega)]
      rw [if_neg (show ¬ c p = 115 by omega), if_neg (show ¬ c p = 115 by omega)]
      rw [if_neg (show ¬ c p = 99 by omega), if_neg (show ¬ c p = 99 by omega)]
      rw [if_pos e0, if_pos e0]
      rw [if_neg (show ¬ c (p + 1) = 97 by omega), if_neg (show ¬ c (p + 1) = 97 by omega)]
      rw [if_pos e1, if_pos e1]
      rw [if_neg (show ¬ c (p + 2) = 109 by omega), if_neg (show ¬ c (p + 2) = 109 by omega)]
      rw [if_neg (show ¬ c (p + 2) = 99 by omega), if_neg (show ¬ c (p + 2) = 99 by omega)]
      exact ⟨rfl, zLg_eq (by omega) (by omega) (by omega) (by omega) (by omega) (by omega) (by omega) (by omega) (by omega) (by omega)⟩
    have f1_101 := e1
    clear e1
    rw [if_neg (by omega)] at m0
    rw [if_neg (by omega)] at m1
    rw [if_neg (by omega)] at m2
    rw [if_pos e0] at m3
    rw [if_neg (by omega)] at m3
    rw [if_pos e0] at m4
    rw [if_neg (by omega)] at m4
    rw [if_pos e0] at m5
    rw [if_neg (by omega)] at m5
    rw [if_neg (by omega)] at m6
    rw [if_neg (by omega)] at m7
    rw [if_neg (show ¬ c p = 98 by omega), if_neg (show ¬ c p = 98 by omega)]
    rw [if_neg (show ¬ c p = 115 by omega), if_neg (show ¬ c p = 115 by omega)]
    rw [if_neg (show ¬ c p = 99 by omega), if_neg (show ¬ c p = 99 by omega)]
    rw [if_pos e0, if_pos e0]
    rw [if_neg (show ¬ c (p + 1) = 97 by omega), if_neg (show ¬ c (p + 1) = 97 by omega)]
    rw [if_neg (show ¬ c (p + 1) = 101 by omega), if_neg (show ¬ c (p + 1) = 101 by omega)]
    exact ⟨rfl, zLg_eq (by omega) (by omega) (by omega) (by omega) (by omega) (by omega) (by omega) (by omega) (by omega) (by omega)⟩
  have f0_114 := e0
  clear e0
  by_cases e0 : c p = 119
  · by_cases e1 : c (p + 1) = 105
    · by_cases e2 : c (p + 2) = 110
      · rw [if_pos e0] at m0
        rw [if_pos e1] at m0
        rw [if_pos e2] at m0
        rw [if_pos e0] at m1
        rw [if_pos e1] at m1
        rw [if_neg (by omega)] at m1
        rw [if_neg (by omega)] at m2
        rw [if_neg (by omega)] at m3
        rw [if_neg (by omega)] at m4
        rw [if_neg (by omega)] at m5
        rw [if_neg (by omega)] at m6
        rw [if_neg (by omega)] at m7
        rw [if_neg (show ¬ c p = 98 by omega), if_neg (show ¬ c p = 98 by omega)]
        rw [if_neg (show ¬ c p = 115 by omega), if_neg (show ¬ c p = 115 by omega)]
        rw [if_neg (show ¬ c p = 99 by omega), if_neg (show ¬ c p = 99 by omega)]
        rw [if_neg (show ¬ c p = 114 by omega), if_neg (show ¬ c p = 114 by omega)]
        rw [if_pos e0, if_pos e0]
        rw [if_pos e1, if_pos e1]
        rw [if_pos e2, if_pos e2]
        rw [if_neg (by omega)]
        exact ⟨rfl, zLg_eq (by omega) (by omega) (by omega) (by omega) (by omega) (by omega) (by omega) (by omega) (by omega) (by omega)⟩
      have f2_110 := e2
      clear e2
      by_cases e2 : c (p + 2) = 116
      · rw [if_pos e0] at m0
        rw [if_pos e1] at m0
        rw [if_neg (by omega)] at m0
        rw [if_pos e0] at m1
        rw [if_pos e1] at m1
        rw [if_pos e2] at m1
        rw [if_neg (by omega)] at m2
        rw [if_neg (by omega)] at m3
        rw [if_neg (by omega)] at m4
        rw [if_neg (by omega)] at m5
        rw [if_neg (by omega)] at m6
        rw [if_neg (by omega)] at m7
        rw [if_neg (show ¬ c p = 98 by omega), if_neg (show ¬ c p = 98 by omega)]
        rw [if_neg (show ¬ c p = 115 by omega), if_neg (show ¬ c p = 115 by omega)]
        rw [if_neg (show ¬ c p = 99 by omega), if_neg (show ¬ c p = 99 by omega)]
        rw [if_neg (show ¬ c p = 114 by omega), if_neg (show ¬ c p = 114 by omega)]
        rw [if_pos e0, if_pos e0]
        rw [if_pos e1, if_pos e1]
        rw [if_neg (show ¬ c (p + 2) = 110 by omega), if_neg (show ¬ c (p + 2) = 110 by omega)]
        rw [if_pos e2, if_pos e2]
        rw [if_neg (by omega)]
        exact ⟨rfl, zLg_eq (by omega) (by omega) (by omega) (by omega) (by omega) (by omega) (by omega) (by omega) (by omega) (by omega)⟩
      have f2_116 := e2
      clear e2
      rw [if_pos e0] at m0
      rw [if_pos e1] at m0
      rw [if_neg (by omega)] at m0
      rw [if_pos e0] at m1
      rw [if_pos e1] at m1
      rw [if_neg (by omega)] at m1
      rw [if_neg (by omega)] at m2
      rw [if_neg (by omega)] at m3
      rw [if_neg (by omega)] at m4
      rw [if_neg (by omega)] at m5
      rw [if_neg (by omega)] at m6
      rw [if_neg (by omega)] at m7
      rw [if_neg (show ¬ c p = 98 by omega), if_neg (show ¬ c p = 98 by omega)]
      rw [if_neg (show ¬ c p = 115 by omega), if_neg (show ¬ c p = 115 by omega)]
      rw [if_neg (show ¬ c p = 99 by omega), if_neg (show ¬ c p = 99 by omega)]
      rw [if_neg (show ¬ c p = 114 by omega), if_neg (show ¬ c p = 114 by omega)]
      rw [if_pos e0, if_pos e0]
      rw [if_pos e1, if_pos e1]
      rw [if_neg (show ¬ c (p + 2) = 110 by omega), if_neg (show ¬ c (p + 2) = 110 by omega)]
      rw [if_neg (show ¬ c (p + 2) = 116 by omega), if_neg (show ¬ c (p + 2) = 116 by omega)]
      exact ⟨rfl, zLg_eq (by omega) (by omega) (by omega) (by omega) (by omega) (by omega) (by omega) (by omega) (by omega) (by omega)⟩
    have f1_105 := e1
    clear e1
    rw [if_pos e0] at m0
    rw [if_neg (by omega)] at m0
    rw [if_pos e0] at m1
    rw [if_neg (by omega)] at m1
    rw [if_neg (by omega)] at m2
    rw [if_neg (by omega)] at m3
    rw [if_neg (by omega)] at m4
    rw [if_neg (by omega)] at m5
    rw [if_neg (by omega)] at m6
    rw [if_neg (by omega)] at m7
    rw [if_neg (show ¬ c p = 98 by omega), if_neg (show ¬ c p = 98 by omega)]
    rw [if_neg (show ¬ c p = 115 by omega), if_neg (show ¬ c p = 115 by omega)]
    rw [if_neg (show ¬ c p = 99 by omega), if_neg (show ¬ c p = 99 by omega)]
    rw [if_neg (show ¬ c p = 114 by omega), if_neg (show ¬ c p = 114 by omega)]
    rw [if_pos e0, if_pos e0]
    rw [if_neg (show ¬ c (p + 1) = 105 by omega), if_neg (show ¬ c (p + 1) = 105 by omega)]
    exact ⟨rfl, zLg_eq (by omega) (by omega) (by omega) (by omega) (by omega) (by omega) (by omega) (by omega) (by omega) (by omega)⟩
  have f0_119 := e0
  clear e0
  rw [if_neg (by omega)] at m0
  rw [if_neg (by omega)] at m1
  rw [if_neg (by omega)] at m2
  rw [if_neg (by omega)] at m3
  rw [if_neg (by omega)] at m4
  rw [if_neg (by omega)] at m5
  rw [if_neg (by omega)] at m6
  rw [if_neg (by omega)] at m7
  rw [if_neg (show ¬ c p = 98 by omega), if_neg (show ¬ c p = 98 by omega)]
  rw [if_neg (show ¬ c p = 115 by omega), if_neg (show ¬ c p = 115 by omega)]
  rw [if_neg (show ¬ c p = 99 by omega), if_neg (show ¬ c p = 99 by omega)]
  rw [if_neg (show ¬ c p = 114 by omega), if_neg (show ¬ c p = 114 by omega)]
  rw [if_neg (show ¬ c p = 119 by omega), if_neg (show ¬ c p = 119 by omega)]
  exact ⟨rfl, zLg_eq (by omega) (by omega) (by omega) (by omega) (by omega) (by omega) (by omega) (by omega) (by omega) (by omega)⟩
def zD1 (w : Int) : Int := ([0, 1, 2, 2, 2, 2, 0, 0] : List Int).getD w.toNat 0
def zD2 (w : Int) : Int := ([0, 0, 1, 1, 0, 2, 0, 0] : List Int).getD w.toNat 0
/-- a number of at most d digits at p, whose first is there -/
def zNv (c : Int → Int) (p d : Int) : Int := if d = 2 ∧ 48 ≤ c (p + 1) ∧ c (p + 1) ≤ 57 then 10 * (c p - 48) + (c (p + 1) - 48) else c p - 48
def zNl (c : Int → Int) (p d : Int) : Int := if d = 2 ∧ 48 ≤ c (p + 1) ∧ c (p + 1) ≤ 57 then 2 else 1
/-- a parameter of at most d digits: is it there, and where it ends -/
def zPo (c : Int → Int) (p d : Int) : Prop := d = 0 ∨ (c p = 32 ∧ 48 ≤ c (p + 1) ∧ c (p + 1) ≤ 57)
def zPe (c : Int → Int) (p d : Int) : Int := if d = 0 then p else if c p = 32 then (if 48 ≤ c (p + 1) ∧ c (p + 1) ≤ 57 then p + 1 + zNl c (p + 1) d else p + 1) else p
/-- further winds: how many (by fuel), and whether the last sign has its digit -/
def zFm (c : Int → Int) : Nat → Int → Int
  | 0, _ => 0
  | m + 1, p => if c p = 62 ∧ 48 ≤ c (p + 1) ∧ c (p + 1) ≤ 57 then 1 + zFm c m (p + 2) else 0
theorem zFm_range (c : Int → Int) : ∀ (m : Nat) (p : Int), 0 ≤ zFm c m p ∧ zFm c m p ≤ m := by
  intro m
  induction m with
  | zero => intro p; unfold zFm; omega
  | succ m ih =>
    intro p
    have := ih (p + 2)
    unfold zFm
    split <;> omega
def zFw9 (c : Int → Int) (p : Int) : Int := zFm c 60 p
theorem zFm_step (c : Int → Int) : ∀ (m : Nat) (p : Int), zFm c m p < m → ¬ (c (p + 2 * zFm c m p) = 62 ∧ 48 ≤ c (p + 2 * zFm c m p + 1) ∧ c (p + 2 * zFm c m p + 1) ≤ 57) := by
  intro m
  induction m with
  | zero => intro p h; unfold zFm at h; omega
  | succ m ih =>
    intro p h
    unfold zFm at h ⊢
    by_cases e : c p = 62 ∧ 48 ≤ c (p + 1) ∧ c (p + 1) ≤ 57
    · rw [if_pos e] at h ⊢
      have := ih (p + 2) (by omega)
      rw [show p + 2 + 2 * zFm c m (p + 2) = p + 2 * (1 + zFm c m (p + 2)) by omega] at this
      exact this
    · rw [if_neg e, Int.mul_zero, Int.add_zero]
      exact e
theorem zFm_in (c : Int → Int) : ∀ (m : Nat) (p j : Int), 0 ≤ j → j < zFm c m p → c (p + 2 * j) = 62 ∧ 48 ≤ c (p + 2 * j + 1) ∧ c (p + 2 * j + 1) ≤ 57 := by
  intro m
  induction m with
  | zero => intro p j h0 h; unfold zFm at h; omega
  | succ m ih =>
    intro p j h0 h
    unfold zFm at h
    by_cases e : c p = 62 ∧ 48 ≤ c (p + 1) ∧ c (p + 1) ≤ 57
    · rw [if_pos e] at h
      by_cases ej : j = 0
      · rw [ej, Int.mul_zero, Int.add_zero]
        exact e
      · have := ih (p + 2) (j - 1) (by omega) (by omega)
        rw [show p + 2 + 2 * (j - 1) = p + 2 * j by omega] at this
        exact this
    · rw [if_neg e] at h
      omega
/-! a command: where its first parameter, its second and the further winds begin, and where these end -/
def zq1 (c : Int → Int) (p : Int) : Int := p + zWa c p
def zq2 (c : Int → Int) (p : Int) : Int := zPe c (zq1 c p) (zD1 (zWw c p))
def zq3 (c : Int → Int) (p : Int) : Int := zPe c (zq2 c p) (zD2 (zWw c p))
def zq4 (c : Int → Int) (p : Int) : Int := zq3 c p + 2 * zFw9 c (zq3 c p)
/-- a command at p: is it one -/
def zCo (c : Int → Int) (p : Int) : Prop := 0 ≤ zWw c p ∧ zPo c (zq1 c p) (zD1 (zWw c p)) ∧ zPo c (zq2 c p) (zD2 (zWw c p)) ∧ (zWw c p = 2 → c (zq4 c p) ≠ 62)
/-- where it ends, or where it can't be read on -/
noncomputable def zCe (c : Int → Int) (p : Int) : Int :=
  if zWw c p < 0 then zq1 c p else
  @ite Int (zPo c (zq1 c p) (zD1 (zWw c p))) (Classical.propDecidable _) (@ite Int (zPo c (zq2 c p) (zD2 (zWw c p))) (Classical.propDecidable _) (if zWw c p = 2 then (if c (zq4 c p) = 62 then zq4 c p + 1 else zq4 c p) else zq3 c p) (zq3 c p)) (zq2 c p)
theorem zCe_w {c : Int → Int} {p : Int} (h : zWw c p < 0) : zCe c p = zq1 c p := if_pos h
theorem zCe_1 {c : Int → Int} {p : Int} (h : ¬ zWw c p < 0) (h1 : ¬ zPo c (zq1 c p) (zD1 (zWw c p))) : zCe c p = zq2 c p := by
  unfold zCe
  rw [if_neg h, if_neg h1]
theorem zCe_2 {c : Int → Int} {p : Int} (h : ¬ zWw c p < 0) (h1 : zPo c (zq1 c p) (zD1 (zWw c p))) (h2 : ¬ zPo c (zq2 c p) (zD2 (zWw c p))) : zCe c p = zq3 c p := by
  unfold zCe
  rw [if_neg h, if_pos h1, if_neg h2]
theorem zCe_3 {c : Int → Int} {p : Int} (h : ¬ zWw c p < 0) (h1 : zPo c (zq1 c p) (zD1 (zWw c p))) (h2 : zPo c (zq2 c p) (zD2 (zWw c p))) (h3 : zWw c p ≠ 2) : zCe c p = zq3 c p := by
  unfold zCe
  rw [if_neg h, if_pos h1, if_pos h2, if_neg h3]
theorem zCe_4 {c : Int → Int} {p : Int} (h : ¬ zWw c p < 0) (h1 : zPo c (zq1 c p) (zD1 (zWw c p))) (h2 : zPo c (zq2 c p) (zD2 (zWw c p))) (h3 : zWw c p = 2) (h4 : c (zq4 c p) ≠ 62) : zCe c p = zq4 c p := by
  unfold zCe
  rw [if_neg h, if_pos h1, if_pos h2, if_pos h3, if_neg h4]
theorem zCe_5 {c : Int → Int} {p : Int} (h : ¬ zWw c p < 0) (h1 : zPo c (zq1 c p) (zD1 (zWw c p))) (h2 : zPo c (zq2 c p) (zD2 (zWw c p))) (h3 : zWw c p = 2) (h4 : c (zq4 c p) = 62) : zCe c p = zq4 c p + 1 := by
  unfold zCe
  rw [if_neg h, if_pos h1, if_pos h2, if_pos h3, if_pos h4]
/-- letters stand within the text -/
theorem zMt9_in {c : Int → Int} {n : Int} (hc : ∀ p, n ≤ p → c p = -1) : ∀ (w : List Int) (p : Int), (∀ x ∈ w, 0 ≤ x) → p ≤ n → p + zMt9 c w p ≤ n := by
  intro w
  induction w with
  | nil => intro p _ h; unfold zMt9; omega
  | cons x xs ih =>
    intro p hx h
    unfold zMt9
    split
    · rename_i e
      have h1 : p < n := by
        by_cases e2 : p < n
        · exact e2
        · have := hc p (by omega)
          have := hx x List.mem_cons_self
          omega
      have := ih (p + 1) (fun y hy => hx y (List.mem_cons_of_mem _ hy)) (by omega)
      omega
    · omega
theorem zWw_rg (c : Int → Int) (p : Int) : -1 ≤ zWw c p ∧ zWw c p < 8 := by
  unfold zWw
  omega
theorem zWa_rg (c : Int → Int) (p : Int) : 0 ≤ zWa c p ∧ (0 ≤ zWw c p → 4 ≤ zWa c p) := by
  have rg := zW_rg c p
  constructor
  · unfold zWa
    omega
  · unfold zWa zWw
    intro h
    omega
theorem zWa_in {c : Int → Int} {n : Int} (hc : ∀ p, n ≤ p → c p = -1) (hn : ∀ p, p < n → c p ≠ -1 ∨ p < 0) {p : Int} (h0 : 0 ≤ p) (h : p ≤ n) : p + zWa c p ≤ n := by
  by_cases hw : ∃ k, k < 8 ∧ zMk c p k = zWn9 k
  · obtain ⟨k, hk, e⟩ := hw
    rw [(zW_yes c p hk e).2, ← e]
    refine zMt9_in hc _ p ?_ h
    match k, hk with
    | 0, _ => decide
    | 1, _ => decide
    | 2, _ => decide
    | 3, _ => decide
    | 4, _ => decide
    | 5, _ => decide
    | 6, _ => decide
    | 7, _ => decide
  · have e := (zW_no c p (fun k hk e => hw ⟨k, hk, e⟩)).2
    rw [e]
    have := zLg_le c p (n - p) (by omega) 8 (fun k hk => by
      have : p + zMk c p k ≤ n := by
        refine zMt9_in hc _ p ?_ h
        match k, hk with
        | 0, _ => decide
        | 1, _ => decide
        | 2, _ => decide
        | 3, _ => decide
        | 4, _ => decide
        | 5, _ => decide
        | 6, _ => decide
        | 7, _ => decide
      omega)
    omega
theorem zPe_rg {c : Int → Int} {n : Int} (hc : ∀ p, n ≤ p → c p = -1) {p : Int} (h : p ≤ n) (d : Int) : p ≤ zPe c p d ∧ zPe c p d ≤ n := by
  unfold zPe zNl
  have h0 := hc p
  have h1 := hc (p + 1)
  have h2 := hc (p + 1 + 1)
  omega
theorem zFm_end {c : Int → Int} {n : Int} (hc : ∀ p, n ≤ p → c p = -1) : ∀ (m : Nat) (p : Int), p ≤ n → p + 2 * zFm c m p ≤ n := by
  intro m
  induction m with
  | zero => intro p h; unfold zFm; omega
  | succ m ih =>
    intro p h
    unfold zFm
    split
    · rename_i e
      have h0 := hc p
      have h1 := hc (p + 1)
      have := ih (p + 2) (by omega)
      omega
    · omega
theorem zFm_max {c : Int → Int} {n : Int} (hc : ∀ p, n ≤ p → c p = -1) {p : Int} (h0 : 4 ≤ p) (h : p ≤ n) (hn : n ≤ 60) : 0 ≤ zFw9 c p ∧ 2 * zFw9 c p ≤ n - p := by
  have := zFm_end hc 60 p h
  have := zFm_range c 60 p
  unfold zFw9
  omega
section ZQ9
variable {c : Int → Int} {n : Int}
/-- a text: nothing behind its end -/
def zEd (c : Int → Int) (n : Int) : Prop := 0 ≤ n ∧ n ≤ 60 ∧ (∀ p, n ≤ p → c p = -1) ∧ ∀ p, p < n → c p ≠ -1 ∨ p < 0
theorem zCe_rg (hc : zEd c n) {p : Int} (h0 : 0 ≤ p) (h : p ≤ n) : p ≤ zq1 c p ∧ zq1 c p ≤ zq2 c p ∧ zq2 c p ≤ zq3 c p ∧ zq3 c p ≤ zq4 c p ∧ zq4 c p ≤ n ∧ p ≤ zCe c p ∧ zCe c p ≤ n ∧ (zCo c p → p + 4 ≤ zCe c p) ∧ (0 ≤ zWw c p → 4 ≤ zq1 c p) := by
  obtain ⟨hn0, hn60, c1, c2⟩ := hc
  have a1 := zWa_in c1 c2 h0 h
  have a0 := zWa_rg c p
  have e1 : zq1 c p = p + zWa c p := rfl
  have a2 := zPe_rg c1 (p := zq1 c p) (by omega) (zD1 (zWw c p))
  have e2 : zq2 c p = zPe c (zq1 c p) (zD1 (zWw c p)) := rfl
  rw [← e2] at a2
  have a3 := zPe_rg c1 (p := zq2 c p) (by omega) (zD2 (zWw c p))
  have e3 : zq3 c p = zPe c (zq2 c p) (zD2 (zWw c p)) := rfl
  rw [← e3] at a3
  have a4 := zFm_end c1 60 (zq3 c p) (by omega)
  have a5 := zFm_range c 60 (zq3 c p)
  have e4 : zq4 c p = zq3 c p + 2 * zFm c 60 (zq3 c p) := rfl
  rw [← e4] at a4
  have e5 : c (zq4 c p) = 62 → zq4 c p + 1 ≤ n := fun e => by
    by_cases h9 : n ≤ zq4 c p
    · have := c1 _ h9
      omega
    · omega
  have e6 : zCe c p = zq1 c p ∧ zWw c p < 0 ∨ (zCe c p = zq2 c p ∨ zCe c p = zq3 c p ∨ zCe c p = zq4 c p ∨ (zCe c p = zq4 c p + 1 ∧ c (zq4 c p) = 62)) := by
    by_cases b0 : zWw c p < 0
    · exact Or.inl ⟨zCe_w b0, b0⟩
    · refine Or.inr ?_
      by_cases b1 : zPo c (zq1 c p) (zD1 (zWw c p))
      · by_cases b2 : zPo c (zq2 c p) (zD2 (zWw c p))
        · by_cases b3 : zWw c p = 2
          · by_cases b4 : c (zq4 c p) = 62
            · exact Or.inr (Or.inr (Or.inr ⟨zCe_5 b0 b1 b2 b3 b4, b4⟩))
            · exact Or.inr (Or.inr (Or.inl (zCe_4 b0 b1 b2 b3 b4)))
          · exact Or.inr (Or.inl (zCe_3 b0 b1 b2 b3))
        · exact Or.inr (Or.inl (zCe_2 b0 b1 b2))
      · exact Or.inl (zCe_1 b0 b1)
  refine ⟨by omega, by omega, by omega, by omega, by omega, by omega, by omega, fun ho => ?_, fun hw => by omega⟩
  have := ho.1
  omega
/-- where the k-th command begins -/
noncomputable def zPs9 (c : Int → Int) : Nat → Int
  | 0 => 0
  | k + 1 => zCe c (zPs9 c k) + 1
/-- k commands, a semicolon behind each -/
def zOk9 (c : Int → Int) (N : Nat) : Prop := ∀ j, j < N → zCo c (zPs9 c j) ∧ c (zCe c (zPs9 c j)) = 59
theorem zPs9_rg (hc : zEd c n) : ∀ (N : Nat), zOk9 c N → 5 * (N : Int) ≤ zPs9 c N ∧ zPs9 c N ≤ n := by
  intro N
  induction N with
  | zero => intro _; exact ⟨by show 5 * ((0 : Nat) : Int) ≤ 0; omega, hc.1⟩
  | succ N ih =>
    intro h
    obtain ⟨i1, i2⟩ := ih (fun j hj => h j (by omega))
    have h2 := h N (by omega)
    have h3 := zCe_rg hc (p := zPs9 c N) (by omega) i2
    have h4 := h3.2.2.2.2.2.2.2.1 h2.1
    have e : zPs9 c (N + 1) = zCe c (zPs9 c N) + 1 := rfl
    have h5 : zCe c (zPs9 c N) < n := by
      by_cases h9 : n ≤ zCe c (zPs9 c N)
      · have := hc.2.2.1 _ h9
        omega
      · omega
    omega
/-- the text's last command: the first that is none, or behind which no semicolon stands -/
def zLast (c : Int → Int) (N : Nat) : Prop := zOk9 c N ∧ ¬ (zCo c (zPs9 c N) ∧ c (zCe c (zPs9 c N)) = 59)
theorem zLast_ex (hc : zEd c n) : ∃ N, zLast c N := by
  by_cases h : ∃ N, zLast c N
  · exact h
  · exfalso
    have ha : ∀ N, zOk9 c N := by
      intro N
      induction N with
      | zero => intro j hj; omega
      | succ N ih =>
        intro j hj
        by_cases e : j = N
        · rw [e]
          exact Classical.byContradiction fun h9 => h ⟨N, ih, h9⟩
        · exact ih j (by omega)
    have h1 := zPs9_rg hc 61 (ha 61)
    have := hc.2.1
    omega
/-- is the text well-formed -/
def zTok (c : Int → Int) (n : Int) (N : Nat) : Prop := zCo c (zPs9 c N) ∧ zCe c (zPs9 c N) = n
theorem zCh9_ed {L : List Int} (h : L.length ≤ 60) (hL : ∀ i : Nat, i < L.length → L.getD i 0 ≠ -1) : zEd (zCh9 L) L.length := by
  refine ⟨by omega, by omega, fun p hp => zCh9_out (by omega), fun p hp => ?_⟩
  by_cases h0 : 0 ≤ p
  · left
    rw [zCh9_in h0 hp]
    exact hL _ (by omega)
  · right
    omega
end ZQ9
