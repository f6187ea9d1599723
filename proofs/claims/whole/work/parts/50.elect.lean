/-! ===== what an election is ===== -/
/-- the first wind of A on ballot b -/
def zTp (G : Int → Int) (A : Int → Bool) (b : Int) : Int := zFs (fun k => A (G (20 + 7 * b + 2 + k))) (G (20 + 7 * b + 1))
def zTop (G : Int → Int) (A : Int → Bool) (b : Int) : Int := if zTp G A b = -1 then -1 else G (20 + 7 * b + 2 + zTp G A b)
/-- the votes from the first k ballots -/
def zVk (G : Int → Int) (A : Int → Bool) (k w : Int) : Int := if A w = true then zU (fun b => if zTop G A b = w then G (20 + 7 * b) else 0) k else -1
def zXk (G : Int → Int) (A : Int → Bool) (k : Int) : Int := zU (fun b => if zTop G A b = -1 then G (20 + 7 * b) else 0) k
def zVo (G : Int → Int) (A : Int → Bool) (w : Int) : Int := zVk G A (G 1) w
def zCnt (V : Int → Int) (m k : Int) : Int := zU (fun v => if V v = m then 1 else 0) k
def zNth (V : Int → Int) (m i : Int) : Int := zFs (fun w => decide (V w = m ∧ zCnt V m w = i)) 8
def zFwN (V : Int → Int) : Nat → Int
  | 0 => -1
  | n + 1 => if V n ≠ -1 ∧ (zFwN V n = -1 ∨ V n < zFwN V n) then V n else zFwN V n
def zFwk (V : Int → Int) (k : Int) : Int := zFwN V k.toNat
def zSm (V : Int → Int) : Int := zU (fun w => if V w = -1 then 0 else V w) 8
def zCn (V : Int → Int) : Int := zU (fun w => if V w = -1 then 0 else 1) 8
def zWn (V : Int → Int) : Int := zFs (fun w => decide (V w ≠ -1 ∧ (zCn V = 1 ∨ zSm V < 2 * V w))) 8
def zFw (V : Int → Int) : Int := zFwk V 8
def zWc (V : Int → Int) : Int := zCnt V (zFw V) 8
def zTi (V : Int → Int) : Int := if zWn V = -1 ∧ 2 ≤ zWc V then 1 else 0
def zSn (V : Int → Int) (s : Int) : Int := if zWn V = -1 ∧ 2 ≤ zWc V then (5 * s + 3) % 16 else s
def zEl (V : Int → Int) (s : Int) : Int := if zWn V = -1 then zNth V (zFw V) (if 2 ≤ zWc V then ((5 * s + 3) % 16) % zWc V else 0) else -1
def zA0 (G : Int → Int) (w : Int) : Bool := decide (0 ≤ w ∧ w < G 0 ∧ G (4 + w) = 0)
/-- who continues in a round, and the spinner before it -/
def zRd (G : Int → Int) : Nat → (Int → Bool) × Int
  | 0 => (zA0 G, G 2)
  | i + 1 => (fun w => (zRd G i).1 w && decide (w ≠ zEl (zVo G (zRd G i).1) (zRd G i).2), zSn (zVo G (zRd G i).1) (zRd G i).2)
def zA (G : Int → Int) (i : Int) : Int → Bool := (zRd G i.toNat).1
def zP (G : Int → Int) (i : Int) : Int := (zRd G i.toNat).2
def zVr (G : Int → Int) (i : Int) : Int → Int := zVo G (zA G i)
/-- how many rounds -/
def zRn (G : Int → Int) : Int := if zSt G = 0 then 0 else 1 + zFs (fun i => decide (zWn (zVr G i) ≠ -1)) 8
def zW (G : Int → Int) : Int := if zSt G = 0 then -1 else zWn (zVr G (zRn G - 1))
theorem zA_0 (G : Int → Int) : zA G 0 = zA0 G := rfl
theorem zP_0 (G : Int → Int) : zP G 0 = G 2 := rfl
theorem zA_s (G : Int → Int) {i : Int} (h : 0 ≤ i) : zA G (i + 1) = fun w => zA G i w && decide (w ≠ zEl (zVr G i) (zP G i)) := by
  unfold zVr zA zP
  rw [show (i + 1).toNat = i.toNat + 1 by omega]
  rfl
theorem zP_s (G : Int → Int) {i : Int} (h : 0 ≤ i) : zP G (i + 1) = zSn (zVr G i) (zP G i) := by
  unfold zVr zA zP
  rw [show (i + 1).toNat = i.toNat + 1 by omega]
  rfl
theorem zSn_range {V : Int → Int} {s : Int} (h : 0 ≤ s ∧ s < 16) : 0 ≤ zSn V s ∧ zSn V s < 16 := by
  unfold zSn
  split
  · omega
  · exact h
theorem zP_range {G : Int → Int} (hG : zWF G) {i : Int} (h : 0 ≤ i) : 0 ≤ zP G i ∧ zP G i < 16 :=
  zU_ind (P := fun i => 0 ≤ zP G i ∧ zP G i < 16) h hG.sp (fun k k0 _ ih => by rw [zP_s G k0]; exact zSn_range ih)
theorem zFwk_0 (V : Int → Int) : zFwk V 0 = -1 := rfl
theorem zFwk_s (V : Int → Int) {k : Int} (h : 0 ≤ k) : zFwk V (k + 1) = if V k ≠ -1 ∧ (zFwk V k = -1 ∨ V k < zFwk V k) then V k else zFwk V k := by
  unfold zFwk
  rw [show (k + 1).toNat = k.toNat + 1 by omega]
  show (if V (k.toNat : Nat) ≠ -1 ∧ _ then V (k.toNat : Nat) else _) = _
  rw [show ((k.toNat : Nat) : Int) = k by omega]
theorem zCnt_s (V : Int → Int) (m : Int) {k : Int} (h : 0 ≤ k) : zCnt V m (k + 1) = zCnt V m k + if V k = m then 1 else 0 := zU_s _ h
theorem zCnt_range (V : Int → Int) (m : Int) {k : Int} (h : 0 ≤ k) : 0 ≤ zCnt V m k ∧ zCnt V m k ≤ k := by
  have := zU_le (f := fun v => if V v = m then 1 else 0) (n := k) (lo := 0) (hi := 1) h (fun _ _ _ => by split <;> omega)
  unfold zCnt
  omega
theorem zNth_ex (V : Int → Int) (m : Int) {i : Int} (h0 : 0 ≤ i) (h1 : i < zCnt V m 8) : 0 ≤ zNth V m i ∧ zNth V m i < 8 ∧ V (zNth V m i) = m ∧ zCnt V m (zNth V m i) = i := by
  rcases zFs_cases (fun w => decide (V w = m ∧ zCnt V m w = i)) 8 with ⟨_, h⟩ | ⟨a, b, c, _⟩
  · have key := zU_ind (P := fun k => k ≤ 8 → zCnt V m k ≤ i) (n := 8) (by omega) (fun _ => h0) (fun k k0 k1 ih k2 => by
      rw [zCnt_s V m k0]
      have a := ih (by omega)
      have b := of_decide_eq_false (h k k0 (by omega))
      by_cases e : V k = m
      · rw [if_pos e]
        have : zCnt V m k ≠ i := fun e2 => b ⟨e, e2⟩
        omega
      · rw [if_neg e]; omega) (by omega)
    omega
  · exact ⟨a, b, of_decide_eq_true c⟩
theorem zNth_eq (V : Int → Int) (m : Int) {i w : Int} (h0 : 0 ≤ w) (h1 : w < 8) (h2 : V w = m) (h3 : zCnt V m w = i) : zNth V m i = w := by
  refine zFs_yes h0 h1 (decide_eq_true ⟨h2, h3⟩) (fun j j0 j1 => decide_eq_false (fun h => ?_))
  have key := zU_ind (P := fun k => j + 1 ≤ k → i + 1 ≤ zCnt V m k) (n := w) h0 (fun h => by omega) (fun k k0 k1 ih k2 => by
    rw [zCnt_s V m k0]
    by_cases e : k = j
    · subst e
      rw [if_pos h.1]
      omega
    · have := ih (by omega)
      split <;> omega) (by omega)
  omega
theorem zFwk_cases (V : Int → Int) {n : Int} (h : 0 ≤ n) : (zFwk V n = -1 ∧ ∀ w, 0 ≤ w → w < n → V w = -1) ∨ (zFwk V n ≠ -1 ∧ (∃ w, 0 ≤ w ∧ w < n ∧ V w = zFwk V n) ∧ ∀ w, 0 ≤ w → w < n → V w ≠ -1 → zFwk V n ≤ V w) := by
  refine zU_ind (P := fun n => (zFwk V n = -1 ∧ ∀ w, 0 ≤ w → w < n → V w = -1) ∨ (zFwk V n ≠ -1 ∧ (∃ w, 0 ≤ w ∧ w < n ∧ V w = zFwk V n) ∧ ∀ w, 0 ≤ w → w < n → V w ≠ -1 → zFwk V n ≤ V w)) h (Or.inl ⟨rfl, fun w _ _ => by omega⟩) (fun k k0 k1 ih => ?_)
  rw [zFwk_s V k0]
  by_cases e : V k ≠ -1 ∧ (zFwk V k = -1 ∨ V k < zFwk V k)
  · rw [if_pos e]
    refine Or.inr ⟨e.1, ⟨k, k0, by omega, rfl⟩, fun w w0 w1 w2 => ?_⟩
    by_cases e2 : w = k
    · rw [e2]; omega
    · rcases ih with ⟨a, b⟩ | ⟨a, b, c⟩
      · exact absurd (b w w0 (by omega)) w2
      · have := c w w0 (by omega) w2
        omega
  · rw [if_neg e]
    rcases ih with ⟨a, b⟩ | ⟨a, ⟨v, v0, v1, v2⟩, c⟩
    · exact Or.inl ⟨a, fun w w0 w1 => by
        by_cases e2 : w = k
        · rw [e2]; exact Classical.byContradiction fun n => e ⟨n, Or.inl a⟩
        · exact b w w0 (by omega)⟩
    · exact Or.inr ⟨a, ⟨v, v0, by omega, v2⟩, fun w w0 w1 w2 => by
        by_cases e2 : w = k
        · rw [e2] at w2 ⊢
          exact Int.not_lt.mp fun n => e ⟨w2, Or.inr n⟩
        · exact c w w0 (by omega) w2⟩
/-- somebody continues: somebody has the fewest -/
theorem zFw_ex {V : Int → Int} {w : Int} (h0 : 0 ≤ w) (h1 : w < 8) (h2 : V w ≠ -1) : zFw V ≠ -1 ∧ 1 ≤ zWc V := by
  rcases zFwk_cases V (n := 8) (by omega) with ⟨_, b⟩ | ⟨a, ⟨v, v0, v1, v2⟩, _⟩
  · exact absurd (b w h0 h1) h2
  · refine ⟨a, ?_⟩
    have := zU_pos (f := fun v => if V v = zFw V then 1 else 0) (n := 8) (i := v) (fun k _ _ => by split <;> omega) v0 v1
    rw [if_pos (show V v = zFw V from v2)] at this
    exact this
theorem zEl_ex {V : Int → Int} {w s : Int} (h0 : 0 ≤ w) (h1 : w < 8) (h2 : V w ≠ -1) (h3 : zWn V = -1) (hs : 0 ≤ s) : 0 ≤ zEl V s ∧ zEl V s < 8 ∧ V (zEl V s) ≠ -1 := by
  have h4 := zFw_ex h0 h1 h2
  unfold zEl
  rw [if_pos h3]
  have hi : 0 ≤ (if 2 ≤ zWc V then ((5 * s + 3) % 16) % zWc V else 0) ∧ (if 2 ≤ zWc V then ((5 * s + 3) % 16) % zWc V else 0) < zWc V := by
    split
    · exact ⟨Int.emod_nonneg _ (by omega), Int.emod_lt_of_pos _ (by omega)⟩
    · omega
  have h5 := zNth_ex V (zFw V) hi.1 hi.2
  exact ⟨h5.1, h5.2.1, by rw [h5.2.2.1]; exact h4.1⟩
section ZEL
variable {G : Int → Int}
theorem zTop_cases (hG : zWF G) (A : Int → Bool) {b : Int} (h0 : 0 ≤ b) (h1 : b < G 1) : (zTop G A b = -1 ∧ zTp G A b = -1 ∧ ∀ k, 0 ≤ k → k < G (20 + 7 * b + 1) → A (G (20 + 7 * b + 2 + k)) = false) ∨ (0 ≤ zTop G A b ∧ zTop G A b < G 0 ∧ A (zTop G A b) = true) := by
  rcases zFs_cases (fun k => A (G (20 + 7 * b + 2 + k))) (G (20 + 7 * b + 1)) with ⟨a, h⟩ | ⟨a, c, d, _⟩
  · refine Or.inl ⟨?_, a, h⟩
    unfold zTop
    exact if_pos a
  · have hr := hG.rk h0 h1 _ a c
    refine Or.inr ?_
    unfold zTop
    rw [if_neg (show ¬ zTp G A b = -1 by unfold zTp; omega)]
    exact ⟨hr.1, hr.2, d⟩
theorem zVk_s (A : Int → Bool) {k : Int} (h : 0 ≤ k) (w : Int) (hA : A w = true) : zVk G A (k + 1) w = zVk G A k w + if zTop G A k = w then G (20 + 7 * k) else 0 := by
  unfold zVk
  rw [if_pos hA, if_pos hA, zU_s _ h]
theorem zVk_n (A : Int → Bool) (k w : Int) (hA : A w = false) : zVk G A k w = -1 := by
  unfold zVk
  rw [if_neg (by rw [hA]; decide)]
theorem zVk_0 (A : Int → Bool) (w : Int) : zVk G A 0 w = if A w = true then 0 else -1 := rfl
theorem zVk_y (hG : zWF G) (A : Int → Bool) {k : Int} (h : 0 ≤ k) (h1 : k ≤ G 1) (w : Int) (hA : A w = true) : 0 ≤ zVk G A k w ∧ zVk G A k w ≤ 99 * k := by
  unfold zVk
  rw [if_pos hA]
  have := zU_le (f := fun b => if zTop G A b = w then G (20 + 7 * b) else 0) (n := k) (lo := 0) (hi := 99) h (fun b b0 b1 => by
    have := hG.wt b0 (show b < G 1 by omega)
    split <;> omega)
  omega
theorem zVk_range (hG : zWF G) (A : Int → Bool) {k : Int} (h : 0 ≤ k) (h1 : k ≤ G 1) (w : Int) : -1 ≤ zVk G A k w ∧ zVk G A k w ≤ 1980 := by
  have hn := hG.n
  cases hA : A w with
  | true => have := zVk_y hG A h h1 w hA; omega
  | false => rw [zVk_n A k w hA]; omega
theorem zVk_ne (hG : zWF G) (A : Int → Bool) {k : Int} (h : 0 ≤ k) (h1 : k ≤ G 1) (w : Int) : zVk G A k w = -1 ↔ A w = false := by
  cases hA : A w with
  | true =>
    have := zVk_y hG A h h1 w hA
    constructor
    · intro e; omega
    · intro e; cases e
  | false => rw [zVk_n A k w hA]; exact ⟨fun _ => rfl, fun _ => rfl⟩
theorem zVo_range (hG : zWF G) (A : Int → Bool) (w : Int) : -1 ≤ zVo G A w ∧ zVo G A w ≤ 1980 := zVk_range hG A hG.n.1 (Int.le_refl _) w
theorem zVo_ne (hG : zWF G) (A : Int → Bool) (w : Int) : zVo G A w = -1 ↔ A w = false := zVk_ne hG A hG.n.1 (Int.le_refl _) w
theorem zXk_range (hG : zWF G) (A : Int → Bool) {k : Int} (h : 0 ≤ k) (h1 : k ≤ G 1) : 0 ≤ zXk G A k ∧ zXk G A k ≤ 99 * k := by
  have := zU_le (f := fun b => if zTop G A b = -1 then G (20 + 7 * b) else 0) (n := k) (lo := 0) (hi := 99) h (fun b b0 b1 => by
    have := hG.wt b0 (show b < G 1 by omega)
    split <;> omega)
  unfold zXk
  omega
/-- how many continue -/
def zAc (A : Int → Bool) : Int := zU (fun w => if A w = true then 1 else 0) 8
theorem zCn_Ac (hG : zWF G) (A : Int → Bool) : zCn (zVo G A) = zAc A := by
  unfold zCn zAc
  refine zU_congr (by omega) (fun w w0 w1 => ?_)
  have := zVo_ne hG A w
  cases hA : A w with
  | true => rw [if_neg (fun e => by rw [this.mp e] at hA; cases hA), if_pos rfl]
  | false => rw [if_pos (this.mpr hA), if_neg (by decide)]
theorem zAc_0 (hG : zWF G) : zAc (zA0 G) = zSt G := by
  have hw := hG.w
  have key := zU_ind (P := fun n => G 0 + n ≤ 8 → zU (fun w => if zA0 G w = true then 1 else 0) (G 0 + n) = zSt G) (n := 8 - G 0) (by omega) (fun _ => by
    rw [Int.add_zero]
    refine zU_congr hw.1 (fun k k0 k1 => ?_)
    by_cases e : G (4 + k) = 0
    · rw [if_pos (show zA0 G k = true from decide_eq_true ⟨k0, k1, e⟩), if_pos e]
    · rw [if_neg (show ¬ zA0 G k = true from fun c => e (of_decide_eq_true c).2.2), if_neg e]) (fun k k0 k1 ih k2 => by
    rw [← Int.add_assoc, zU_s _ (by omega), ih (by omega), if_neg (show ¬ zA0 G (G 0 + k) = true from fun c => by have := (of_decide_eq_true c).2.1; omega)]
    omega) (by omega)
  rw [show G 0 + (8 - G 0) = 8 by omega] at key
  exact key
theorem zAc_ex {A : Int → Bool} (h : 1 ≤ zAc A) : ∃ w, 0 ≤ w ∧ w < 8 ∧ A w = true := by
  apply Classical.byContradiction
  intro n
  have := zU_congr (f := fun w => if A w = true then 1 else 0) (g := fun _ => 0) (n := 8) (by omega) (fun k k0 k1 => if_neg (fun e => n ⟨k, k0, k1, e⟩))
  have b := zU_le (f := fun _ => 0) (n := 8) (lo := 0) (hi := 0) (by omega) (fun _ _ _ => by omega)
  unfold zAc at h
  omega
/-- the only one that continues wins -/
theorem zWn_1 (hG : zWF G) {A : Int → Bool} (h : zAc A = 1) : zWn (zVo G A) ≠ -1 := by
  obtain ⟨w, w0, w1, w2⟩ := zAc_ex (A := A) (by omega)
  intro e
  rcases zFs_cases (fun w => decide (zVo G A w ≠ -1 ∧ (zCn (zVo G A) = 1 ∨ zSm (zVo G A) < 2 * zVo G A w))) 8 with ⟨_, b⟩ | ⟨a, _⟩
  · have := of_decide_eq_false (b w w0 w1)
    exact this ⟨fun e2 => absurd w2 (by rw [(zVo_ne hG A w).mp e2]; decide), Or.inl (by rw [zCn_Ac hG, h])⟩
  · unfold zWn at e
    omega
/-- while nobody wins one falls in each round -/
theorem zA_step (hG : zWF G) {i : Int} (hi : 0 ≤ i) (h : ∀ j, 0 ≤ j → j < i → zWn (zVr G j) = -1) (hs : i < zSt G) : zAc (zA G i) = zSt G - i ∧ ∀ w, zA G i w = true → 0 ≤ w ∧ w < G 0 := by
  refine zU_ind (P := fun k => k ≤ i → zAc (zA G k) = zSt G - k ∧ ∀ w, zA G k w = true → 0 ≤ w ∧ w < G 0) hi (fun _ => ⟨by rw [zA_0, zAc_0 hG]; omega, fun w hw => ?_⟩) (fun k k0 k1 ih k2 => ?_) (by omega)
  · have := of_decide_eq_true hw
    exact ⟨this.1, this.2.1⟩
  · obtain ⟨a, b⟩ := ih (by omega)
    obtain ⟨w, w0, w1, w2⟩ := zAc_ex (A := zA G k) (by omega)
    have hV : ∀ v, zVr G k v = -1 ↔ zA G k v = false := fun v => zVo_ne hG _ v
    have he := zEl_ex (V := zVr G k) (s := zP G k) w0 w1 (fun e => by rw [(hV w).mp e] at w2; cases w2) (h k k0 k1) (zP_range hG k0).1
    have hA : zA G k (zEl (zVr G k) (zP G k)) = true := by
      cases hA : zA G k (zEl (zVr G k) (zP G k)) with
      | true => rfl
      | false => exact absurd ((hV _).mpr hA) he.2.2
    have e1 : ∀ v, v ≠ zEl (zVr G k) (zP G k) → zA G (k + 1) v = zA G k v := fun v e => by
      rw [zA_s G k0]
      show (zA G k v && decide _) = _
      rw [decide_eq_true e, Bool.and_true]
    have e2 : zA G (k + 1) (zEl (zVr G k) (zP G k)) = false := by
      rw [zA_s G k0]
      show (zA G k _ && decide _) = _
      rw [decide_eq_false (fun n => n rfl), Bool.and_false]
    have hup := zU_up (f := fun w => if zA G (k + 1) w = true then 1 else 0) (g := fun w => if zA G k w = true then 1 else 0) (n := 8) he.1 he.2.1 (fun v _ _ e => by rw [e1 v e])
    rw [if_neg (show ¬ zA G (k + 1) (zEl (zVr G k) (zP G k)) = true by rw [e2]; decide), if_pos hA] at hup
    refine ⟨?_, fun v hv => ?_⟩
    · unfold zAc at a ⊢
      omega
    · rw [zA_s G k0] at hv
      exact b v (Bool.and_eq_true_iff.mp hv).1
theorem zRn_spec (hG : zWF G) (hs : 1 ≤ zSt G) : 1 ≤ zRn G ∧ zRn G ≤ zSt G ∧ zSt G ≤ 8 ∧ (∀ j, 0 ≤ j → j < zRn G - 1 → zWn (zVr G j) = -1) ∧ zWn (zVr G (zRn G - 1)) ≠ -1 := by
  have hw := hG.w
  have h8 := zSt_range hG
  unfold zRn
  rw [if_neg (by omega)]
  rcases zFs_cases (fun i => decide (zWn (zVr G i) ≠ -1)) 8 with ⟨_, b⟩ | ⟨a, c, d, e⟩
  · have hj : ∀ j, 0 ≤ j → j < zSt G - 1 → zWn (zVr G j) = -1 := fun j j0 j1 => Classical.byContradiction fun n => of_decide_eq_false (b j j0 (by omega)) n
    have := (zA_step hG (i := zSt G - 1) (by omega) hj (by omega)).1
    exact absurd (zWn_1 hG (A := zA G (zSt G - 1)) (by omega)) (of_decide_eq_false (b (zSt G - 1) (by omega) (by omega)))
  · have hj : ∀ j, 0 ≤ j → j < zFs (fun i => decide (zWn (zVr G i) ≠ -1)) 8 → zWn (zVr G j) = -1 := fun j j0 j1 => Classical.byContradiction fun n => of_decide_eq_false (e j j0 j1) n
    refine ⟨by omega, ?_, by omega, fun j j0 j1 => hj j j0 (by omega), ?_⟩
    · apply Classical.byContradiction
      intro n
      have hj2 : ∀ j, 0 ≤ j → j < zSt G - 1 → zWn (zVr G j) = -1 := fun j j0 j1 => hj j j0 (by omega)
      have := (zA_step hG (i := zSt G - 1) (by omega) hj2 (by omega)).1
      exact zWn_1 hG (A := zA G (zSt G - 1)) (by omega) (hj _ (by omega) (by omega))
    · rw [show 1 + zFs (fun i => decide (zWn (zVr G i) ≠ -1)) 8 - 1 = zFs (fun i => decide (zWn (zVr G i) ≠ -1)) 8 by omega]
      exact of_decide_eq_true d
/-- a wind that wins is one that stands -/
theorem zWn_range {V : Int → Int} (h : zWn V ≠ -1) : 0 ≤ zWn V ∧ zWn V < 8 ∧ V (zWn V) ≠ -1 := by
  rcases zFs_cases (fun w => decide (V w ≠ -1 ∧ (zCn V = 1 ∨ zSm V < 2 * V w))) 8 with ⟨a, _⟩ | ⟨a, b, c, _⟩
  · exact absurd a h
  · exact ⟨a, b, (of_decide_eq_true c).1⟩
theorem zA_sub {i : Int} (h : 0 ≤ i) : ∀ w, zA G i w = true → zA0 G w = true :=
  zU_ind (P := fun i => ∀ w, zA G i w = true → zA0 G w = true) h (fun w hw => hw) (fun k k0 _ ih w hw => by
    rw [zA_s G k0] at hw
    exact ih w (Bool.and_eq_true_iff.mp hw).1)
theorem zW_range (hG : zWF G) (hs : 1 ≤ zSt G) : 0 ≤ zW G ∧ zW G < G 0 ∧ G (4 + zW G) = 0 := by
  have h := zRn_spec hG hs
  have e : zW G = zWn (zVr G (zRn G - 1)) := if_neg (by omega)
  have hr := zWn_range h.2.2.2.2
  have hA : zA G (zRn G - 1) (zWn (zVr G (zRn G - 1))) = true := by
    cases hA : zA G (zRn G - 1) (zWn (zVr G (zRn G - 1))) with
    | true => rfl
    | false => exact absurd ((zVo_ne hG _ _).mpr hA) hr.2.2
  have := of_decide_eq_true (zA_sub (by omega) _ hA)
  rw [e]
  exact this
/-- all votes and those that are exhausted are all -/
theorem zSm_all (hG : zWF G) (A : Int → Bool) (hA : ∀ w, A w = true → 0 ≤ w ∧ w < 8) : zSm (zVo G A) + zXk G A (G 1) = zTot G := by
  have hw := hG.w
  refine zU_ind (P := fun k => k ≤ G 1 → zU (fun w => if A w = true then zU (fun b => if zTop G A b = w then G (20 + 7 * b) else 0) k else 0) 8 + zXk G A k = zU (fun b => G (20 + 7 * b)) k) hG.n.1 (fun _ => ?_) (fun k k0 k1 ih k2 => ?_) (by omega) |>.symm.trans ?_ |>.symm
  · have b := zU_congr (f := fun w => if A w = true then zU (fun b => if zTop G A b = w then G (20 + 7 * b) else 0) 0 else 0) (g := fun _ => 0) (n := 8) (by omega) (fun k _ _ => by split <;> rfl)
    have c := zU_le (f := fun _ => 0) (n := 8) (lo := 0) (hi := 0) (by omega) (fun _ _ _ => by omega)
    have d : zXk G A 0 = 0 := rfl
    have e : zU (fun b => G (20 + 7 * b)) 0 = 0 := rfl
    omega
  · have i1 := ih (by omega)
    have x1 : zXk G A (k + 1) = zXk G A k + if zTop G A k = -1 then G (20 + 7 * k) else 0 := zU_s _ k0
    rw [x1, zU_s (fun b => G (20 + 7 * b)) k0, ← i1]
    rcases zTop_cases hG A k0 (by omega) with ⟨a, _⟩ | ⟨a, b, c⟩
    · rw [if_pos a, zU_congr (g := fun w => if A w = true then zU (fun b => if zTop G A b = w then G (20 + 7 * b) else 0) k else 0) (n := 8) (by omega) (fun w w0 w1 => by
        rw [zU_s _ k0, if_neg (show ¬ zTop G A k = w by omega)]
        split <;> omega)]
      omega
    · have h8 := hA _ c
      have u := zU_up (f := fun w => if A w = true then zU (fun b => if zTop G A b = w then G (20 + 7 * b) else 0) (k + 1) else 0) (g := fun w => if A w = true then zU (fun b => if zTop G A b = w then G (20 + 7 * b) else 0) k else 0) (n := 8) h8.1 h8.2 (fun w w0 w1 e => by
        rw [zU_s _ k0, if_neg (show ¬ zTop G A k = w by omega)]
        split <;> omega)
      rw [u, if_pos c, if_pos c, zU_s _ k0, if_pos rfl, if_neg (show ¬ zTop G A k = -1 by omega)]
      omega
  · congr 1
    unfold zSm
    refine zU_congr (by omega) (fun w w0 w1 => ?_)
    cases h : A w with
    | true => rw [if_pos rfl, if_neg (fun e => by rw [(zVo_ne hG A w).mp e] at h; cases h)]; unfold zVo zVk; rw [if_pos h]
    | false => rw [if_neg (by decide), if_pos ((zVo_ne hG A w).mpr h)]
end ZEL
