/-! ===== sums and searches over rows of whole numbers ===== -/
def zU (f : Int → Int) (n : Int) : Int := zSum f n.toNat
theorem zU_0 (f : Int → Int) : zU f 0 = 0 := rfl
theorem zU_s (f : Int → Int) {n : Int} (h : 0 ≤ n) : zU f (n + 1) = zU f n + f n := by
  unfold zU
  rw [show (n + 1).toNat = n.toNat + 1 by omega]
  show zSum f n.toNat + f (n.toNat : Int) = _
  rw [show ((n.toNat : Nat) : Int) = n by omega]
theorem zU_ind {P : Int → Prop} {n : Int} (h : 0 ≤ n) (h0 : P 0) (hs : ∀ k, 0 ≤ k → k < n → P k → P (k + 1)) : P n := by
  have key : ∀ m : Nat, (m : Int) ≤ n → P m := by
    intro m
    induction m with
    | zero => intro _; exact h0
    | succ m ih =>
      intro hm
      have := hs m (by omega) (by omega) (ih (by omega))
      rw [show ((m + 1 : Nat) : Int) = (m : Int) + 1 by omega]
      exact this
  have := key n.toNat (by omega)
  rw [show ((n.toNat : Nat) : Int) = n by omega] at this
  exact this
theorem zU_congr {f g : Int → Int} {n : Int} (h0 : 0 ≤ n) (h : ∀ k, 0 ≤ k → k < n → f k = g k) : zU f n = zU g n := by
  refine zU_ind (P := fun m => m ≤ n → zU f m = zU g m) h0 (fun _ => by rw [zU_0, zU_0]) (fun k hk1 hk2 ih hk3 => ?_) (by omega)
  rw [zU_s f hk1, zU_s g hk1, ih (by omega), h k hk1 hk2]
theorem zU_le {f : Int → Int} {n lo hi : Int} (h0 : 0 ≤ n) (h : ∀ k, 0 ≤ k → k < n → lo ≤ f k ∧ f k ≤ hi) : lo * n ≤ zU f n ∧ zU f n ≤ hi * n := by
  refine zU_ind (P := fun m => m ≤ n → lo * m ≤ zU f m ∧ zU f m ≤ hi * m) h0 (fun _ => by rw [zU_0]; simp) (fun k hk1 hk2 ih hk3 => ?_) (by omega)
  rw [zU_s f hk1, Int.mul_add, Int.mul_add, Int.mul_one, Int.mul_one]
  have a := ih (by omega)
  have b := h k hk1 hk2
  omega
theorem zU_add {f g : Int → Int} {n : Int} (h0 : 0 ≤ n) : zU (fun k => f k + g k) n = zU f n + zU g n := by
  refine zU_ind (P := fun m => zU (fun k => f k + g k) m = zU f m + zU g m) h0 (by simp [zU_0]) (fun k hk1 hk2 ih => ?_)
  rw [zU_s _ hk1, zU_s _ hk1, zU_s _ hk1, ih]
  omega
theorem zU_mono {f g : Int → Int} {n : Int} (h0 : 0 ≤ n) (h : ∀ k, 0 ≤ k → k < n → f k ≤ g k) : zU f n ≤ zU g n := by
  refine zU_ind (P := fun m => m ≤ n → zU f m ≤ zU g m) h0 (fun _ => by rw [zU_0, zU_0]; omega) (fun k hk1 hk2 ih hk3 => ?_) (by omega)
  rw [zU_s _ hk1, zU_s _ hk1]
  have := ih (by omega)
  have := h k hk1 hk2
  omega
/-- one place changed -/
theorem zU_up {f g : Int → Int} {n i : Int} (h0 : 0 ≤ i) (h1 : i < n) (h : ∀ k, 0 ≤ k → k < n → k ≠ i → f k = g k) : zU f n = zU g n + (f i - g i) := by
  refine zU_ind (P := fun m => m ≤ n → zU f m = zU g m + (if i < m then f i - g i else 0)) (show 0 ≤ n by omega) (fun _ => by rw [zU_0, zU_0, if_neg (by omega)]; rfl) (fun k hk1 hk2 ih hk3 => ?_) (by omega) |>.trans (by rw [if_pos h1])
  rw [zU_s _ hk1, zU_s _ hk1, ih (by omega)]
  by_cases e : k = i
  · subst e
    rw [if_neg (by omega), if_pos (by omega)]
    omega
  · rw [h k hk1 hk2 e]
    by_cases e2 : i < k
    · rw [if_pos e2, if_pos (by omega)]; omega
    · rw [if_neg e2, if_neg (by omega)]; omega
theorem zU_pos {f : Int → Int} {n i : Int} (h : ∀ k, 0 ≤ k → k < n → 0 ≤ f k) (h0 : 0 ≤ i) (h1 : i < n) : f i ≤ zU f n := by
  have a := zU_up (f := f) (g := fun k => if k = i then 0 else f k) h0 h1 (fun k _ _ e => by rw [if_neg e])
  have b := zU_mono (f := fun _ => 0) (g := fun k => if k = i then 0 else f k) (n := n) (by omega) (fun k h2 h3 => by
    split
    · omega
    · exact h k h2 h3)
  have c := zU_le (f := fun _ => 0) (n := n) (lo := 0) (hi := 0) (by omega) (fun _ _ _ => by omega)
  rw [if_pos rfl] at a
  omega
def zFsN (p : Int → Bool) : Nat → Int → Int
  | 0, _ => -1
  | m + 1, k => if p k then k else zFsN p m (k + 1)
/-- the first place below n where p holds; -1: none -/
def zFs (p : Int → Bool) (n : Int) : Int := zFsN p n.toNat 0
theorem zFsN_yes (p : Int → Bool) (i : Int) (h2 : p i = true) : ∀ (m : Nat) (k : Int), k ≤ i → i < k + m → (∀ j, k ≤ j → j < i → p j = false) → zFsN p m k = i := by
  intro m
  induction m with
  | zero => intro k a b; omega
  | succ m ih =>
    intro k a b c
    unfold zFsN
    by_cases e : k = i
    · subst e; rw [if_pos h2]
    · rw [if_neg (by rw [c k (by omega) (by omega)]; decide)]
      exact ih (k + 1) (by omega) (by omega) (fun j h3 h4 => c j (by omega) h4)
theorem zFsN_no (p : Int → Bool) : ∀ (m : Nat) (k : Int), (∀ j, k ≤ j → j < k + m → p j = false) → zFsN p m k = -1 := by
  intro m
  induction m with
  | zero => intro k _; rfl
  | succ m ih =>
    intro k c
    unfold zFsN
    rw [if_neg (by rw [c k (by omega) (by omega)]; decide)]
    exact ih (k + 1) (fun j h3 h4 => c j (by omega) (by omega))
theorem zFs_yes {p : Int → Bool} {n i : Int} (h0 : 0 ≤ i) (h1 : i < n) (h2 : p i = true) (h3 : ∀ j, 0 ≤ j → j < i → p j = false) : zFs p n = i := zFsN_yes p i h2 _ 0 h0 (by omega) h3
theorem zFs_no {p : Int → Bool} {n : Int} (h3 : ∀ j, 0 ≤ j → j < n → p j = false) : zFs p n = -1 := zFsN_no p _ 0 (fun j a b => h3 j a (by omega))
theorem zFs_cases (p : Int → Bool) (n : Int) : (zFs p n = -1 ∧ ∀ j, 0 ≤ j → j < n → p j = false) ∨ (0 ≤ zFs p n ∧ zFs p n < n ∧ p (zFs p n) = true ∧ ∀ j, 0 ≤ j → j < zFs p n → p j = false) := by
  by_cases hn : 0 ≤ n
  · refine zU_ind (P := fun m => ((∀ j, 0 ≤ j → j < m → p j = false) ∨ ∃ i, 0 ≤ i ∧ i < m ∧ p i = true ∧ ∀ j, 0 ≤ j → j < i → p j = false)) hn (Or.inl (fun j _ _ => by omega)) (fun k h1 h2 ih => ?_) |>.elim (fun h => Or.inl ⟨zFs_no h, h⟩) (fun ⟨i, h0, h1, h2, h3⟩ => Or.inr ?_)
    · rcases ih with ih | ⟨i, a, b, c, d⟩
      · cases hp : p k with
        | true => exact Or.inr ⟨k, h1, by omega, hp, ih⟩
        | false => exact Or.inl (fun j a b => by
            by_cases e : j = k
            · rw [e, hp]
            · exact ih j a (by omega))
      · exact Or.inr ⟨i, a, by omega, c, d⟩
    · rw [zFs_yes h0 h1 h2 h3]
      exact ⟨h0, h1, h2, h3⟩
  · have h : ∀ j, 0 ≤ j → j < n → p j = false := fun j _ _ => by omega
    exact Or.inl ⟨zFs_no h, h⟩
theorem zFs_range (p : Int → Bool) {n : Int} (h : 0 ≤ n) : -1 ≤ zFs p n ∧ zFs p n < n + 1 := by
  rcases zFs_cases p n with ⟨h1, _⟩ | ⟨h1, h2, _⟩ <;> omega
theorem zFs_congr {p q : Int → Bool} {n : Int} (h : ∀ j, 0 ≤ j → j < n → p j = q j) : zFs p n = zFs q n := by
  rcases zFs_cases q n with ⟨h1, h2⟩ | ⟨h0, h1, h2, h3⟩
  · rw [h1]
    exact zFs_no fun j a b => by rw [h j a b, h2 j a b]
  · exact zFs_yes h0 h1 (by rw [h _ h0 h1, h2]) fun j a b => by rw [h j a (by omega), h3 j a b]
/-! ===== what an assembly is: a row of 160 ===== -/
/-- the place of wind w on ballot b; -1: none -/
def zPl (G : Int → Int) (b w : Int) : Int := zFs (fun k => decide (G (20 + 7 * b + 2 + k) = w)) (G (20 + 7 * b + 1))
def zSt (G : Int → Int) : Int := zU (fun w => if G (4 + w) = 0 then 1 else 0) (G 0)
def zTot (G : Int → Int) : Int := zU (fun b => G (20 + 7 * b)) (G 1)
def zRks (G : Int → Int) : Int := zU (fun b => G (20 + 7 * b + 1)) (G 1)
def zPf (G : Int → Int) (b w o : Int) : Prop := zPl G b w ≠ -1 ∧ (zPl G b o = -1 ∨ zPl G b w < zPl G b o)
def zPrf (G : Int → Int) (w o : Int) : Int := zU (fun b => if zPl G b w ≠ -1 ∧ (zPl G b o = -1 ∨ zPl G b w < zPl G b o) then G (20 + 7 * b) else 0) (G 1)
def zBt (G : Int → Int) (w : Int) : Int := zU (fun o => if G (4 + o) = 0 ∧ zPrf G o w < zPrf G w o then 1 else 0) (G 0)
def zCh (G : Int → Int) : Int := zFs (fun w => decide (G (4 + w) = 0 ∧ zBt G w = zSt G - 1)) (G 0)
def zSc (G : Int → Int) (w : Int) : Int := zU (fun b => if zPl G b w = -1 then 0 else G (20 + 7 * b) * (5 - zPl G b w)) (G 1)
def zWF (G : Int → Int) : Prop := (0 ≤ G 0 ∧ G 0 ≤ 8) ∧ (0 ≤ G 1 ∧ G 1 ≤ 20) ∧ (0 ≤ G 2 ∧ G 2 < 16) ∧ (0 ≤ G 3 ∧ G 3 = zU (fun w => if G (4 + w) = 2 then 1 else 0) (G 0)) ∧ (∀ w, 0 ≤ w → w < G 0 → 0 ≤ G (4 + w) ∧ G (4 + w) ≤ 2) ∧
  (∀ i, 0 ≤ i → i < G 1 → (1 ≤ G (20 + 7 * i) ∧ G (20 + 7 * i) ≤ 99) ∧ (1 ≤ G (20 + 7 * i + 1) ∧ G (20 + 7 * i + 1) ≤ 5) ∧ ∀ j, 0 ≤ j → j < G (20 + 7 * i + 1) → 0 ≤ G (20 + 7 * i + 2 + j) ∧ G (20 + 7 * i + 2 + j) < G 0)
theorem zWF.w {G : Int → Int} (h : zWF G) : 0 ≤ G 0 ∧ G 0 ≤ 8 := h.1
theorem zWF.n {G : Int → Int} (h : zWF G) : 0 ≤ G 1 ∧ G 1 ≤ 20 := h.2.1
theorem zWF.sp {G : Int → Int} (h : zWF G) : 0 ≤ G 2 ∧ G 2 < 16 := h.2.2.1
theorem zWF.s {G : Int → Int} (h : zWF G) : 0 ≤ G 3 ∧ G 3 = zU (fun w => if G (4 + w) = 2 then 1 else 0) (G 0) := h.2.2.2.1
theorem zWF.tg {G : Int → Int} (h : zWF G) : ∀ w, 0 ≤ w → w < G 0 → 0 ≤ G (4 + w) ∧ G (4 + w) ≤ 2 := h.2.2.2.2.1
theorem zWF.wt {G : Int → Int} (h : zWF G) {i : Int} (h0 : 0 ≤ i) (h1 : i < G 1) : 1 ≤ G (20 + 7 * i) ∧ G (20 + 7 * i) ≤ 99 := (h.2.2.2.2.2 i h0 h1).1
theorem zWF.sz {G : Int → Int} (h : zWF G) {i : Int} (h0 : 0 ≤ i) (h1 : i < G 1) : 1 ≤ G (20 + 7 * i + 1) ∧ G (20 + 7 * i + 1) ≤ 5 := (h.2.2.2.2.2 i h0 h1).2.1
theorem zWF.rk {G : Int → Int} (h : zWF G) {i : Int} (h0 : 0 ≤ i) (h1 : i < G 1) : ∀ j, 0 ≤ j → j < G (20 + 7 * i + 1) → 0 ≤ G (20 + 7 * i + 2 + j) ∧ G (20 + 7 * i + 2 + j) < G 0 := (h.2.2.2.2.2 i h0 h1).2.2
theorem zWF.s8 {G : Int → Int} (h : zWF G) : G 3 ≤ G 0 := by
  have a := zU_le (f := fun w => if G (4 + w) = 2 then 1 else 0) (n := G 0) (lo := 0) (hi := 1) h.w.1 (fun k _ _ => by split <;> omega)
  have b := h.s
  omega
/-- a standing wind leaves a seat free -/
theorem zWF.s7 {G : Int → Int} (h : zWF G) {w : Int} (h0 : 0 ≤ w) (h1 : w < G 0) (h2 : G (4 + w) = 0) : G 3 < G 0 := by
  have a := zU_up (f := fun w => if G (4 + w) = 2 then 1 else 0) (g := fun k => if k = w then 1 else if G (4 + k) = 2 then 1 else 0) h0 h1 (fun k _ _ e => by rw [if_neg e])
  have b := zU_le (f := fun k => if k = w then 1 else if G (4 + k) = 2 then 1 else 0) (n := G 0) (lo := 0) (hi := 1) h.w.1 (fun k _ _ => by
    by_cases e : k = w
    · rw [if_pos e]; omega
    · rw [if_neg e]; split <;> omega)
  have c := h.s
  rw [if_pos rfl, if_neg (by omega)] at a
  omega
/-- the pointers of an assembly at a -/
def zHa (M : zM) (a : Int) : Prop := M a 1 = a + 1 ∧ M a 2 = a + 2 ∧ M a 5 = a + 3 ∧ (∀ i, 0 ≤ i → i < 20 → zBl a (M (a + 3) i)) ∧ (∀ i j, 0 ≤ i → i < 20 → 0 ≤ j → j < 20 → M (a + 3) i = M (a + 3) j → i = j) ∧ (∀ b, zBl a b → M b 2 = b + 1) ∧ ∀ w, 0 ≤ w → w < 8 → M (a + 1) w = 0 ∨ M (a + 1) w = 1
theorem zHa.p1 {M : zM} {a : Int} (h : zHa M a) : M a 1 = a + 1 := h.1
theorem zHa.p2 {M : zM} {a : Int} (h : zHa M a) : M a 2 = a + 2 := h.2.1
theorem zHa.p3 {M : zM} {a : Int} (h : zHa M a) : M a 5 = a + 3 := h.2.2.1
theorem zHa.bl {M : zM} {a : Int} (h : zHa M a) {i : Int} (h0 : 0 ≤ i) (h1 : i < 20) : zBl a (M (a + 3) i) := h.2.2.2.1 i h0 h1
theorem zHa.inj {M : zM} {a : Int} (h : zHa M a) {i j : Int} (h0 : 0 ≤ i) (h1 : i < 20) (h2 : 0 ≤ j) (h3 : j < 20) (e : M (a + 3) i = M (a + 3) j) : i = j := h.2.2.2.2.1 i j h0 h1 h2 h3 e
theorem zHa.bp {M : zM} {a b : Int} (h : zHa M a) (hb : zBl a b) : M b 2 = b + 1 := h.2.2.2.2.2.1 b hb
theorem zHa.z1 {M : zM} {a w : Int} (h : zHa M a) (h0 : 0 ≤ w) (h1 : w < 8) : M (a + 1) w = 0 ∨ M (a + 1) w = 1 := h.2.2.2.2.2.2 w h0 h1
def zSeat (M : zM) (a : Int) (G : Int → Int) : Prop := (∀ w, 0 ≤ w → w < G 0 → (G (4 + w) ≠ 2 → M (a + 2) w = -1) ∧ (G (4 + w) = 2 → 0 ≤ M (a + 2) w ∧ M (a + 2) w < G 3 ∧ G (12 + M (a + 2) w) = w)) ∧
  ∀ s, 0 ≤ s → s < G 3 → 0 ≤ G (12 + s) ∧ G (12 + s) < G 0 ∧ G (4 + G (12 + s)) = 2 ∧ M (a + 2) (G (12 + s)) = s
/-- the assembly at a holds the row G -/
def zAR (M : zM) (a : Int) (G : Int → Int) : Prop := zHa M a ∧ M a 0 = G 0 ∧ M a 3 = G 3 ∧ M a 4 = G 1 ∧ M a 6 = G 2 ∧ (∀ w, 0 ≤ w → w < G 0 → M (a + 1) w = if G (4 + w) = 0 then 1 else 0) ∧ zSeat M a G ∧
  ∀ i, 0 ≤ i → i < G 1 → M (M (a + 3) i) 0 = G (20 + 7 * i) ∧ M (M (a + 3) i) 1 = G (20 + 7 * i + 1) ∧ ∀ j, 0 ≤ j → j < G (20 + 7 * i + 1) → M (M (a + 3) i + 1) j = G (20 + 7 * i + 2 + j)
theorem zAR.h {M : zM} {a : Int} {G : Int → Int} (R : zAR M a G) : zHa M a := R.1
theorem zAR.w {M : zM} {a : Int} {G : Int → Int} (R : zAR M a G) : M a 0 = G 0 := R.2.1
theorem zAR.s {M : zM} {a : Int} {G : Int → Int} (R : zAR M a G) : M a 3 = G 3 := R.2.2.1
theorem zAR.n {M : zM} {a : Int} {G : Int → Int} (R : zAR M a G) : M a 4 = G 1 := R.2.2.2.1
theorem zAR.sp {M : zM} {a : Int} {G : Int → Int} (R : zAR M a G) : M a 6 = G 2 := R.2.2.2.2.1
theorem zAR.st {M : zM} {a : Int} {G : Int → Int} (R : zAR M a G) {w : Int} (h0 : 0 ≤ w) (h1 : w < G 0) : M (a + 1) w = if G (4 + w) = 0 then 1 else 0 := R.2.2.2.2.2.1 w h0 h1
theorem zAR.seat {M : zM} {a : Int} {G : Int → Int} (R : zAR M a G) : zSeat M a G := R.2.2.2.2.2.2.1
theorem zAR.bw {M : zM} {a : Int} {G : Int → Int} (R : zAR M a G) {i : Int} (h0 : 0 ≤ i) (h1 : i < G 1) : M (M (a + 3) i) 0 = G (20 + 7 * i) := (R.2.2.2.2.2.2.2 i h0 h1).1
theorem zAR.bn {M : zM} {a : Int} {G : Int → Int} (R : zAR M a G) {i : Int} (h0 : 0 ≤ i) (h1 : i < G 1) : M (M (a + 3) i) 1 = G (20 + 7 * i + 1) := (R.2.2.2.2.2.2.2 i h0 h1).2.1
theorem zAR.bj {M : zM} {a : Int} {G : Int → Int} (R : zAR M a G) {i : Int} (h0 : 0 ≤ i) (h1 : i < G 1) : ∀ j, 0 ≤ j → j < G (20 + 7 * i + 1) → M (M (a + 3) i + 1) j = G (20 + 7 * i + 2 + j) := (R.2.2.2.2.2.2.2 i h0 h1).2.2
/-- what an assembly is depends on its own 44 objects alone -/
theorem zHa.of {M M' : zM} {a : Int} (R : zHa M a) (h : ∀ z, a ≤ z → z < a + 44 → M' z = M z) : zHa M' a := by
  have e0 := h a (by omega) (by omega)
  have e3 := h (a + 3) (by omega) (by omega)
  obtain ⟨h1, h2, h3, h4, h5, h6, h7⟩ := R
  refine ⟨by rw [e0]; exact h1, by rw [e0]; exact h2, by rw [e0]; exact h3, by rw [e3]; exact h4, by rw [e3]; exact h5, fun b hb => ?_, by rw [h (a + 1) (by omega) (by omega)]; exact h7⟩
  have hb2 := id hb
  unfold zBl at hb2
  rw [h b (by omega) (by omega)]
  exact h6 b hb
theorem zAR.of {M M' : zM} {a : Int} {G : Int → Int} (hG : zWF G) (R : zAR M a G) (h : ∀ z, a ≤ z → z < a + 44 → M' z = M z) : zAR M' a G := by
  have e0 := h a (by omega) (by omega)
  have e1 := h (a + 1) (by omega) (by omega)
  have e2 := h (a + 2) (by omega) (by omega)
  have e3 := h (a + 3) (by omega) (by omega)
  refine ⟨R.h.of h, by rw [e0]; exact R.w, by rw [e0]; exact R.s, by rw [e0]; exact R.n, by rw [e0]; exact R.sp, fun w h0 h1 => by rw [e1]; exact R.st h0 h1, ?_, fun i h0 h1 => ?_⟩
  · unfold zSeat
    rw [e2]
    exact R.seat
  · have hb := R.h.bl h0 (by have := hG.n; omega)
    unfold zBl at hb
    rw [e3, h (M (a + 3) i) (by omega) (by omega), h (M (a + 3) i + 1) (by omega) (by omega)]
    exact ⟨R.bw h0 h1, R.bn h0 h1, R.bj h0 h1⟩
/-- a ballot's place, found in the class and in the row -/
theorem zFind_Fs (f : Int → Int) (w n : Int) : ∀ (m : Nat) (k : Int), 0 ≤ k → n - k < m → (∀ j, 0 ≤ j → j < k → f j ≠ w) → zFind f w m k n = zFs (fun j => decide (f j = w)) n := by
  intro m
  induction m with
  | zero =>
    intro k h0 h1 h2
    symm
    exact zFs_no fun j a b => decide_eq_false (h2 j a (by omega))
  | succ m ih =>
    intro k h0 h1 h2
    unfold zFind
    by_cases e : k < n
    · rw [if_pos e]
      by_cases e2 : f k = w
      · rw [if_pos e2]
        symm
        exact zFs_yes h0 e (decide_eq_true e2) fun j a b => decide_eq_false (h2 j a b)
      · rw [if_neg e2]
        exact ih (k + 1) (by omega) (by omega) (fun j a b => by
          by_cases e3 : j = k
          · rw [e3]; exact e2
          · exact h2 j a (by omega))
    · rw [if_neg e]
      symm
      exact zFs_no fun j a b => decide_eq_false (h2 j a (by omega))
theorem zAR.pl {M : zM} {a : Int} {G : Int → Int} (hG : zWF G) (R : zAR M a G) {i w : Int} (h0 : 0 ≤ i) (h1 : i < G 1) : zFind (M (M (a + 3) i + 1)) w 6 0 (G (20 + 7 * i + 1)) = zPl G i w := by
  have hz := hG.sz h0 h1
  rw [zFind_Fs _ _ _ _ _ (by omega) (by omega) (fun j a b => by omega)]
  exact zFs_congr fun j a b => by rw [R.bj h0 h1 j a b]
theorem zPl_range {G : Int → Int} (hG : zWF G) {i : Int} (h0 : 0 ≤ i) (h1 : i < G 1) (w : Int) : -1 ≤ zPl G i w ∧ zPl G i w < 5 := by
  have hz := hG.sz h0 h1
  rcases zFs_cases (fun k => decide (G (20 + 7 * i + 2 + k) = w)) (G (20 + 7 * i + 1)) with ⟨e, _⟩ | ⟨a, b, _⟩
  · unfold zPl; omega
  · unfold zPl; omega
