/-! ===== the reference's own references, rows copied ===== -/
def zSum (f : Int → Int) : Nat → Int
  | 0 => 0
  | n + 1 => zSum f n + f n
/-- the reference's own references -/
def zHm (M : zM) : Prop := M 517 0 = 518 ∧ M 517 1 = 519 ∧ M 517 2 = 520 ∧ M 517 3 = 521 ∧ M 517 8 = 522 ∧ M 517 12 = 523 ∧ M 517 14 = 524 ∧ M 517 15 = 525 ∧ M 517 16 = 526 ∧ M 517 17 = 527 ∧ M 517 22 = 528
theorem k517 : zO 517 9 := ⟨by decide, by decide, by decide +kernel⟩
theorem k518 : zR 518 10 160 := ⟨by decide, by decide, by decide +kernel⟩
theorem k519 : zR 519 10 1280 := ⟨by decide, by decide, by decide +kernel⟩
theorem k520 : zR 520 10 160 := ⟨by decide, by decide, by decide +kernel⟩
theorem k521 : zR 521 10 160 := ⟨by decide, by decide, by decide +kernel⟩
theorem k522 : zR 522 10 60 := ⟨by decide, by decide, by decide +kernel⟩
theorem k523 : zR 523 12 60 := ⟨by decide, by decide, by decide +kernel⟩
theorem k524 : zR 524 10 64 := ⟨by decide, by decide, by decide +kernel⟩
theorem k525 : zR 525 10 8 := ⟨by decide, by decide, by decide +kernel⟩
theorem k526 : zR 526 10 8 := ⟨by decide, by decide, by decide +kernel⟩
theorem k527 : zR 527 11 8 := ⟨by decide, by decide, by decide +kernel⟩
theorem k528 : zR 528 10 155 := ⟨by decide, by decide, by decide +kernel⟩
def zCpy (M : zM) (u a v b n : Int) : zM := fun z j => if z = v ∧ b ≤ j ∧ j < b + n then M u (a + (j - b)) else M z j
theorem zCpy_0 (M : zM) (u a v b : Int) : zCpy M u a v b 0 = M := by
  funext z j
  unfold zCpy
  rw [if_neg (by omega)]
theorem zCpy_1 {M : zM} {u a v b n : Int} (h : u ≠ v) (hn : 0 ≤ n) : z_up (zCpy M u a v b n) v (b + n) (zCpy M u a v b n u (a + n)) = zCpy M u a v b (n + 1) := by
  funext z j
  unfold z_up
  unfold zCpy
  by_cases h1 : z = v ∧ j = b + n
  · obtain ⟨rfl, rfl⟩ := h1
    rw [if_pos ⟨rfl, rfl⟩, if_neg (by omega), if_pos (by omega)]
    congr 1
    omega
  · rw [if_neg h1]
    by_cases h2 : z = v ∧ b ≤ j ∧ j < b + n
    · rw [if_pos h2, if_pos (by omega)]
    · rw [if_neg h2, if_neg (by omega)]
