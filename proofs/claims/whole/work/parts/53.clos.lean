/-! spans, as numbers alone: rows, the least way between any two of n -/
/-- row R, place k now v -/
def up (R : Int → Int) (k v : Int) : Int → Int := fun j => if j = k then v else R j
theorem up_at {R : Int → Int} {k v : Int} : up R k v k = v := by
  unfold up
  rw [if_pos rfl]
theorem up_ne {R : Int → Int} {k v j : Int} (h : j ≠ k) : up R k v j = R j := by
  unfold up
  rw [if_neg h]
def imin (a b : Int) : Int := if b < a then b else a
def imax (a b : Int) : Int := if a < b then b else a
theorem imin_le1 (a b : Int) : imin a b ≤ a := by unfold imin; split <;> omega
theorem imin_le2 (a b : Int) : imin a b ≤ b := by unfold imin; split <;> omega
theorem imin_ge {a b c : Int} (h : c ≤ a) (g : c ≤ b) : c ≤ imin a b := by unfold imin; split <;> omega
theorem imax_ge1 (a b : Int) : a ≤ imax a b := by unfold imax; split <;> omega
theorem imax_ge2 (a b : Int) : b ≤ imax a b := by unfold imax; split <;> omega
theorem imax_le {a b c : Int} (h : a ≤ c) (g : b ≤ c) : imax a b ≤ c := by unfold imax; split <;> omega
theorem imin_eq {a b v : Int} (h : (v = b ∧ b < a) ∨ (v = a ∧ a ≤ b)) : v = imin a b := by unfold imin; split <;> omega
theorem imax_eq {a b v : Int} (h : (v = b ∧ a < b) ∨ (v = a ∧ b ≤ a)) : v = imax a b := by unfold imax; split <;> omega
/-- n nodes: from each to itself 0, nowhere a way round that is less -/
def cl (n : Int) (X : Int → Int → Int) : Prop := (∀ a, 0 ≤ a → a < n → X a a = 0) ∧ ∀ a b c, 0 ≤ a → a < n → 0 ≤ b → b < n → 0 ≤ c → c < n → X a b ≤ X a c + X c b
/-- places p .. of a row of n * n numbers are told anew -/
abbrev lowN (L : Int) (R : Int → Int) (p n : Int) : Prop := ∀ j, p ≤ j → j < n → -L ≤ R j
def fwv6 (y : Int) (R : Int → Int) (p : Int) : Int := imin (R p) (R (6 * (p / 6) + y) + R (6 * y + p % 6))
def fwR6 (y : Int) : Nat → Int → (Int → Int) → Int → Int
  | 0, _, R => R
  | j + 1, p, R => fwR6 y j (p + 1) (up R p (fwv6 y R p))
def gb6 (y L p : Int) (R : Int → Int) : Prop := lowN L R p 36 ∧ (-(2 * L) ≤ R (6 * y + y)) ∧ (∀ a, 0 ≤ a → a < 6 → -(3 * L) ≤ R (6 * a + y) ∧ -(3 * L) ≤ R (6 * y + a)) ∧ (∀ j, 0 ≤ j → j < 36 → -(6 * L) ≤ R j ∧ R j ≤ 9999)
theorem fwR6_app {y : Int} {i j : Nat} : ∀ {p : Int} {R : Int → Int}, fwR6 y (i + j) p R = fwR6 y j (p + i) (fwR6 y i p R) := by
  induction i with
  | zero => intro p R; rw [Nat.zero_add, show p + ((0 : Nat) : Int) = p by omega]; rfl
  | succ i ih =>
    intro p R
    rw [show i + 1 + j = (i + j) + 1 by omega]
    show fwR6 y (i + j) (p + 1) _ = fwR6 y j _ (fwR6 y i (p + 1) _)
    rw [ih, show p + 1 + (i : Int) = p + ((i + 1 : Nat) : Int) by omega]
theorem gb6_start {y L : Int} {R : Int → Int} (hy : 0 ≤ y ∧ y < 6) (hL : 0 ≤ L) (h : ∀ j, 0 ≤ j → j < 36 → -L ≤ R j ∧ R j ≤ 9999) : gb6 y L 0 R :=
  ⟨fun j h0 h1 => (h j h0 h1).1, by have := (h (6 * y + y) (by omega) (by omega)).1; omega, fun a h0 h1 => ⟨by have := (h (6 * a + y) (by omega) (by omega)).1; omega, by have := (h (6 * y + a) (by omega) (by omega)).1; omega⟩, fun j h0 h1 => ⟨by have := (h j h0 h1).1; omega, (h j h0 h1).2⟩⟩
theorem gb6_step {y L p : Int} {R : Int → Int} (hy : 0 ≤ y ∧ y < 6) (hL : 0 ≤ L) (hp : 0 ≤ p ∧ p < 36) (h : gb6 y L p R) : gb6 y L (p + 1) (up R p (fwv6 y R p)) := by
  obtain ⟨h1, h2, h3, h4⟩ := h
  have e1 := imin_le1 (R p) (R (6 * (p / 6) + y) + R (6 * y + p % 6))
  have r1 := (h3 (p / 6) (by omega) (by omega)).1
  have r2 := (h3 (p % 6) (by omega) (by omega)).2
  have r0 := h1 p (by omega) hp.2
  have r4 := (h4 p hp.1 hp.2).2
  have v6 : -(6 * L) ≤ fwv6 y R p := imin_ge (by omega) (by omega)
  refine ⟨fun j h0 h5 => ?_, ?_, fun a a0 a1 => ⟨?_, ?_⟩, fun j h0 h5 => ?_⟩
  · rw [up_ne (by omega)]; exact h1 j (by omega) h5
  · by_cases hc : 6 * y + y = p
    · have e0 : p / 6 = y := by omega
      have q1 := h1 (6 * (p / 6) + y) (by rw [e0]; omega) (by rw [e0]; omega)
      have q2 := h1 (6 * y + p % 6) (by omega) (by omega)
      rw [hc, up_at]
      exact imin_ge (by omega) (by omega)
    · rw [up_ne hc]; exact h2
  · by_cases hc : 6 * a + y = p
    · have q1 := h1 (6 * (p / 6) + y) (by omega) (by omega)
      have q2 : -(2 * L) ≤ R (6 * y + p % 6) := by rw [show p % 6 = y by omega]; exact h2
      rw [hc, up_at]
      exact imin_ge (by omega) (by omega)
    · rw [up_ne hc]; exact (h3 a a0 a1).1
  · by_cases hc : 6 * y + a = p
    · have q1 : -(2 * L) ≤ R (6 * (p / 6) + y) := by rw [show p / 6 = y by omega]; exact h2
      have q2 := h1 (6 * y + p % 6) (by omega) (by omega)
      rw [hc, up_at]
      exact imin_ge (by omega) (by omega)
    · rw [up_ne hc]; exact (h3 a a0 a1).2
  · by_cases hc : j = p
    · rw [hc, up_at]
      exact ⟨v6, Int.le_trans e1 r4⟩
    · rw [up_ne hc]; exact h4 j h0 h5
theorem gb6_end {y L : Int} {j : Nat} (hy : 0 ≤ y ∧ y < 6) (hL : 0 ≤ L) : ∀ {p : Int} {R : Int → Int}, 0 ≤ p → p + j = 36 → gb6 y L p R → ∀ k, 0 ≤ k → k < 36 → -(6 * L) ≤ fwR6 y j p R k ∧ fwR6 y j p R k ≤ 9999 := by
  induction j with
  | zero => intro p R _ _ h; exact h.2.2.2
  | succ j ih => intro p R h0 h1 h; exact ih (by omega) (by omega) (gb6_step hy hL ⟨h0, by omega⟩ h)
theorem fwR6_le {y : Int} {j : Nat} : ∀ {p : Int} {R : Int → Int} (k : Int), fwR6 y j p R k ≤ R k := by
  induction j with
  | zero => intro p R k; exact Int.le_refl _
  | succ j ih =>
    intro p R k
    refine Int.le_trans (ih k) ?_
    unfold up
    split
    · rename_i h; rw [h]; exact imin_le1 _ _
    · exact Int.le_refl _
theorem fwR6_sound {y : Int} {X : Int → Int → Int} (hX : cl 6 X) (hy : 0 ≤ y ∧ y < 6) {j : Nat} : ∀ {p : Int} {R : Int → Int}, 0 ≤ p → p + j ≤ 36 → (∀ a b, 0 ≤ a → a < 6 → 0 ≤ b → b < 6 → X a b ≤ R (6 * a + b)) → ∀ a b, 0 ≤ a → a < 6 → 0 ≤ b → b < 6 → X a b ≤ fwR6 y j p R (6 * a + b) := by
  induction j with
  | zero => intro p R _ _ h; exact h
  | succ j ih =>
    intro p R h0 h1 h
    refine ih (by omega) (by omega) fun a b a0 a1 b0 b1 => ?_
    by_cases hc : 6 * a + b = p
    · rw [hc, up_at]
      have e1 : p / 6 = a := by omega
      have e2 : p % 6 = b := by omega
      unfold fwv6
      rw [e1, e2]
      refine imin_ge (by rw [← hc]; exact h a b a0 a1 b0 b1) ?_
      have q1 := h a y a0 a1 hy.1 hy.2
      have q2 := h y b hy.1 hy.2 b0 b1
      have q3 := hX.2 a b y a0 a1 b0 b1 hy.1 hy.2
      omega
    · rw [up_ne hc]; exact h a b a0 a1 b0 b1
/-- a round, where y to itself is 0: each number by what stood there ahead of it -/
theorem fwR6_eq {y : Int} {R0 : Int → Int} (hy : 0 ≤ y ∧ y < 6) (h0 : R0 (6 * y + y) = 0) {j : Nat} : ∀ {p : Int} {R : Int → Int}, 0 ≤ p → p + j = 36 → (∀ k, 0 ≤ k → k < 36 → R k = if k < p then fwv6 y R0 k else R0 k) → ∀ k, 0 ≤ k → k < 36 → fwR6 y j p R k = fwv6 y R0 k := by
  have hcol : ∀ a, 0 ≤ a → a < 6 → fwv6 y R0 (6 * a + y) = R0 (6 * a + y) := fun a a0 a1 => by
    unfold fwv6
    rw [show (6 * a + y) % 6 = y by omega, show (6 * a + y) / 6 = a by omega, h0, Int.add_zero]
    unfold imin
    split <;> rfl
  have hrow : ∀ a, 0 ≤ a → a < 6 → fwv6 y R0 (6 * y + a) = R0 (6 * y + a) := fun a a0 a1 => by
    unfold fwv6
    rw [show (6 * y + a) % 6 = a by omega, show (6 * y + a) / 6 = y by omega, h0, Int.zero_add]
    unfold imin
    split <;> rfl
  induction j with
  | zero => intro p R _ h1 h k k0 k1; show R k = _; rw [h k k0 k1, if_pos (by omega)]
  | succ j ih =>
    intro p R p0 h1 h
    refine ih (by omega) (by omega) fun k k0 k1 => ?_
    by_cases hc : k = p
    · rw [hc, up_at, if_pos (by omega)]
      have c1 : R (6 * (p / 6) + y) = R0 (6 * (p / 6) + y) := by
        rw [h _ (by omega) (by omega)]
        split
        · exact hcol _ (by omega) (by omega)
        · rfl
      have c2 : R (6 * y + p % 6) = R0 (6 * y + p % 6) := by
        rw [h _ (by omega) (by omega)]
        split
        · exact hrow _ (by omega) (by omega)
        · rfl
      unfold fwv6
      rw [c1, c2, h p (by omega) (by omega), if_neg (by omega)]
    · rw [up_ne hc, h k k0 k1]
      by_cases hk : k < p
      · rw [if_pos hk, if_pos (by omega)]
      · rw [if_neg hk, if_neg (by omega)]
/-- some node has a way round to itself that is below 0 -/
def bad6 (R : Int → Int) : Prop := ∃ q, 0 ≤ q ∧ q < 6 ∧ R (6 * q + q) < 0
/-- closed by the nodes below y -/
def clB6 (R : Int → Int) (y : Int) : Prop := ∀ a b c, 0 ≤ a → a < 6 → 0 ≤ b → b < 6 → 0 ≤ c → c < y → R (6 * a + b) ≤ R (6 * a + c) + R (6 * c + b)
theorem fwR6_cl {y : Int} {R : Int → Int} (hy : 0 ≤ y ∧ y < 6) (hd : ∀ q, 0 ≤ q → q < 6 → R (6 * q + q) ≤ 0) (h : bad6 R ∨ clB6 R y) : bad6 (fwR6 y 36 0 R) ∨ clB6 (fwR6 y 36 0 R) (y + 1) := by
  rcases h with ⟨q, q0, q1, q2⟩ | h
  · exact Or.inl ⟨q, q0, q1, Int.lt_of_le_of_lt (fwR6_le _) q2⟩
  · by_cases h0 : R (6 * y + y) = 0
    · right
      have e := fwR6_eq (R0 := R) hy h0 (j := 36) (p := 0) (R := R) (Int.le_refl 0) rfl (fun k k0 k1 => by rw [if_neg (by omega)])
      have e2 : ∀ a b, 0 ≤ a → a < 6 → 0 ≤ b → b < 6 → fwR6 y 36 0 R (6 * a + b) = imin (R (6 * a + b)) (R (6 * a + y) + R (6 * y + b)) := fun a b a0 a1 b0 b1 => by
        rw [e _ (by omega) (by omega)]
        unfold fwv6
        rw [show (6 * a + b) % 6 = b by omega, show (6 * a + b) / 6 = a by omega]
      intro a b c a0 a1 b0 b1 c0 c1
      rw [e2 a b a0 a1 b0 b1, e2 a c a0 a1 c0 (by omega), e2 c b c0 (by omega) b0 b1]
      by_cases hc : c = y
      · rw [hc, h0]
        have := imin_le2 (R (6 * a + b)) (R (6 * a + y) + R (6 * y + b))
        have g1 : imin (R (6 * a + y)) (R (6 * a + y) + 0) = R (6 * a + y) := by unfold imin; split <;> omega
        have g2 : imin (R (6 * y + b)) (0 + R (6 * y + b)) = R (6 * y + b) := by unfold imin; split <;> omega
        rw [g1, g2]
        exact this
      · have k1 := h a b c a0 a1 b0 b1 c0 (by omega)
        have k2 := h a y c a0 a1 hy.1 hy.2 c0 (by omega)
        have k3 := h y b c hy.1 hy.2 b0 b1 c0 (by omega)
        have k4 := h y y c hy.1 hy.2 hy.1 hy.2 c0 (by omega)
        have f1 := imin_le1 (R (6 * a + b)) (R (6 * a + y) + R (6 * y + b))
        have f2 := imin_le2 (R (6 * a + b)) (R (6 * a + y) + R (6 * y + b))
        generalize imin (R (6 * a + b)) (R (6 * a + y) + R (6 * y + b)) = v at f1 f2 ⊢
        unfold imin
        split <;> split <;> omega
    · left
      exact ⟨y, hy.1, hy.2, Int.lt_of_le_of_lt (fwR6_le _) (by have := hd y hy.1 hy.2; omega)⟩
/-- all rounds: left, from y on -/
def fwA6 : Nat → Int → (Int → Int) → Int → Int
  | 0, _, R => R
  | j + 1, y, R => fwA6 j (y + 1) (fwR6 y 36 0 R)
theorem fwA6_le {j : Nat} : ∀ {y : Int} {R : Int → Int} (k : Int), fwA6 j y R k ≤ R k := by
  induction j with
  | zero => intro y R k; exact Int.le_refl _
  | succ j ih => intro y R k; exact Int.le_trans (ih k) (fwR6_le k)
theorem fwA6_sound {X : Int → Int → Int} (hX : cl 6 X) {j : Nat} : ∀ {y : Int} {R : Int → Int}, 0 ≤ y → y + j ≤ 6 → (∀ a b, 0 ≤ a → a < 6 → 0 ≤ b → b < 6 → X a b ≤ R (6 * a + b)) → ∀ a b, 0 ≤ a → a < 6 → 0 ≤ b → b < 6 → X a b ≤ fwA6 j y R (6 * a + b) := by
  induction j with
  | zero => intro y R _ _ h; exact h
  | succ j ih => intro y R h0 h1 h; exact ih (by omega) (by omega) (fwR6_sound hX ⟨h0, by omega⟩ (Int.le_refl 0) (by decide) h)
theorem fwA6_cl {j : Nat} : ∀ {y : Int} {R : Int → Int}, 0 ≤ y → y + j = 6 → (∀ q, 0 ≤ q → q < 6 → R (6 * q + q) ≤ 0) → bad6 R ∨ clB6 R y → bad6 (fwA6 j y R) ∨ clB6 (fwA6 j y R) 6 := by
  induction j with
  | zero => intro y R _ h1 _ h; have e : y = 6 := by omega
            subst e; exact h
  | succ j ih => intro y R h0 h1 hd h; exact ih (by omega) (by omega) (fun q q0 q1 => Int.le_trans (fwR6_le _) (hd q q0 q1)) (fwR6_cl ⟨h0, by omega⟩ hd h)
theorem fwA6_main {R : Int → Int} (hd : ∀ q, 0 ≤ q → q < 6 → R (6 * q + q) ≤ 0) : bad6 (fwA6 6 0 R) ∨ cl 6 (fun a b => fwA6 6 0 R (6 * a + b)) := by
  rcases fwA6_cl (j := 6) (y := 0) (R := R) (Int.le_refl 0) rfl hd (Or.inr fun a b c a0 a1 b0 b1 c0 c1 => by omega) with h | h
  · exact Or.inl h
  · by_cases hb : bad6 (fwA6 6 0 R)
    · exact Or.inl hb
    · right
      refine ⟨fun a a0 a1 => ?_, h⟩
      have h1 : fwA6 6 0 R (6 * a + a) ≤ 0 := Int.le_trans (fwA6_le _) (hd a a0 a1)
      have h2 : ¬ fwA6 6 0 R (6 * a + a) < 0 := fun g => hb ⟨a, a0, a1, g⟩
      show fwA6 6 0 R (6 * a + a) = 0
      omega
theorem bad6_no {R : Int → Int} (h : bad6 R) : ¬ ∃ X, cl 6 X ∧ ∀ a b, 0 ≤ a → a < 6 → 0 ≤ b → b < 6 → X a b ≤ R (6 * a + b) := by
  rintro ⟨X, hX, hb⟩
  obtain ⟨q, q0, q1, q2⟩ := h
  have h1 := hb q q q0 q1 q0 q1
  have h2 := hX.1 q q0 q1
  omega
def fwv7 (y : Int) (R : Int → Int) (p : Int) : Int := imin (R p) (R (7 * (p / 7) + y) + R (7 * y + p % 7))
def fwR7 (y : Int) : Nat → Int → (Int → Int) → Int → Int
  | 0, _, R => R
  | j + 1, p, R => fwR7 y j (p + 1) (up R p (fwv7 y R p))
def gb7 (y L p : Int) (R : Int → Int) : Prop := lowN L R p 49 ∧ (-(2 * L) ≤ R (7 * y + y)) ∧ (∀ a, 0 ≤ a → a < 7 → -(3 * L) ≤ R (7 * a + y) ∧ -(3 * L) ≤ R (7 * y + a)) ∧ (∀ j, 0 ≤ j → j < 49 → -(6 * L) ≤ R j ∧ R j ≤ 9999)
theorem fwR7_app {y : Int} {i j : Nat} : ∀ {p : Int} {R : Int → Int}, fwR7 y (i + j) p R = fwR7 y j (p + i) (fwR7 y i p R) := by
  induction i with
  | zero => intro p R; rw [Nat.zero_add, show p + ((0 : Nat) : Int) = p by omega]; rfl
  | succ i ih =>
    intro p R
    rw [show i + 1 + j = (i + j) + 1 by omega]
    show fwR7 y (i + j) (p + 1) _ = fwR7 y j _ (fwR7 y i (p + 1) _)
    rw [ih, show p + 1 + (i : Int) = p + ((i + 1 : Nat) : Int) by omega]
theorem gb7_start {y L : Int} {R : Int → Int} (hy : 0 ≤ y ∧ y < 7) (hL : 0 ≤ L) (h : ∀ j, 0 ≤ j → j < 49 → -L ≤ R j ∧ R j ≤ 9999) : gb7 y L 0 R :=
  ⟨fun j h0 h1 => (h j h0 h1).1, by have := (h (7 * y + y) (by omega) (by omega)).1; omega, fun a h0 h1 => ⟨by have := (h (7 * a + y) (by omega) (by omega)).1; omega, by have := (h (7 * y + a) (by omega) (by omega)).1; omega⟩, fun j h0 h1 => ⟨by have := (h j h0 h1).1; omega, (h j h0 h1).2⟩⟩
theorem gb7_step {y L p : Int} {R : Int → Int} (hy : 0 ≤ y ∧ y < 7) (hL : 0 ≤ L) (hp : 0 ≤ p ∧ p < 49) (h : gb7 y L p R) : gb7 y L (p + 1) (up R p (fwv7 y R p)) := by
  obtain ⟨h1, h2, h3, h4⟩ := h
  have e1 := imin_le1 (R p) (R (7 * (p / 7) + y) + R (7 * y + p % 7))
  have r1 := (h3 (p / 7) (by omega) (by omega)).1
  have r2 := (h3 (p % 7) (by omega) (by omega)).2
  have r0 := h1 p (by omega) hp.2
  have r4 := (h4 p hp.1 hp.2).2
  have v6 : -(6 * L) ≤ fwv7 y R p := imin_ge (by omega) (by omega)
  refine ⟨fun j h0 h5 => ?_, ?_, fun a a0 a1 => ⟨?_, ?_⟩, fun j h0 h5 => ?_⟩
  · rw [up_ne (by omega)]; exact h1 j (by omega) h5
  · by_cases hc : 7 * y + y = p
    · have e0 : p / 7 = y := by omega
      have q1 := h1 (7 * (p / 7) + y) (by rw [e0]; omega) (by rw [e0]; omega)
      have q2 := h1 (7 * y + p % 7) (by omega) (by omega)
      rw [hc, up_at]
      exact imin_ge (by omega) (by omega)
    · rw [up_ne hc]; exact h2
  · by_cases hc : 7 * a + y = p
    · have q1 := h1 (7 * (p / 7) + y) (by omega) (by omega)
      have q2 : -(2 * L) ≤ R (7 * y + p % 7) := by rw [show p % 7 = y by omega]; exact h2
      rw [hc, up_at]
      exact imin_ge (by omega) (by omega)
    · rw [up_ne hc]; exact (h3 a a0 a1).1
  · by_cases hc : 7 * y + a = p
    · have q1 : -(2 * L) ≤ R (7 * (p / 7) + y) := by rw [show p / 7 = y by omega]; exact h2
      have q2 := h1 (7 * y + p % 7) (by omega) (by omega)
      rw [hc, up_at]
      exact imin_ge (by omega) (by omega)
    · rw [up_ne hc]; exact (h3 a a0 a1).2
  · by_cases hc : j = p
    · rw [hc, up_at]
      exact ⟨v6, Int.le_trans e1 r4⟩
    · rw [up_ne hc]; exact h4 j h0 h5
theorem gb7_end {y L : Int} {j : Nat} (hy : 0 ≤ y ∧ y < 7) (hL : 0 ≤ L) : ∀ {p : Int} {R : Int → Int}, 0 ≤ p → p + j = 49 → gb7 y L p R → ∀ k, 0 ≤ k → k < 49 → -(6 * L) ≤ fwR7 y j p R k ∧ fwR7 y j p R k ≤ 9999 := by
  induction j with
  | zero => intro p R _ _ h; exact h.2.2.2
  | succ j ih => intro p R h0 h1 h; exact ih (by omega) (by omega) (gb7_step hy hL ⟨h0, by omega⟩ h)
theorem fwR7_le {y : Int} {j : Nat} : ∀ {p : Int} {R : Int → Int} (k : Int), fwR7 y j p R k ≤ R k := by
  induction j with
  | zero => intro p R k; exact Int.le_refl _
  | succ j ih =>
    intro p R k
    refine Int.le_trans (ih k) ?_
    unfold up
    split
    · rename_i h; rw [h]; exact imin_le1 _ _
    · exact Int.le_refl _
theorem fwR7_sound {y : Int} {X : Int → Int → Int} (hX : cl 7 X) (hy : 0 ≤ y ∧ y < 7) {j : Nat} : ∀ {p : Int} {R : Int → Int}, 0 ≤ p → p + j ≤ 49 → (∀ a b, 0 ≤ a → a < 7 → 0 ≤ b → b < 7 → X a b ≤ R (7 * a + b)) → ∀ a b, 0 ≤ a → a < 7 → 0 ≤ b → b < 7 → X a b ≤ fwR7 y j p R (7 * a + b) := by
  induction j with
  | zero => intro p R _ _ h; exact h
  | succ j ih =>
    intro p R h0 h1 h
    refine ih (by omega) (by omega) fun a b a0 a1 b0 b1 => ?_
    by_cases hc : 7 * a + b = p
    · rw [hc, up_at]
      have e1 : p / 7 = a := by omega
      have e2 : p % 7 = b := by omega
      unfold fwv7
      rw [e1, e2]
      refine imin_ge (by rw [← hc]; exact h a b a0 a1 b0 b1) ?_
      have q1 := h a y a0 a1 hy.1 hy.2
      have q2 := h y b hy.1 hy.2 b0 b1
      have q3 := hX.2 a b y a0 a1 b0 b1 hy.1 hy.2
      omega
    · rw [up_ne hc]; exact h a b a0 a1 b0 b1
/-- a round, where y to itself is 0: each number by what stood there ahead of it -/
theorem fwR7_eq {y : Int} {R0 : Int → Int} (hy : 0 ≤ y ∧ y < 7) (h0 : R0 (7 * y + y) = 0) {j : Nat} : ∀ {p : Int} {R : Int → Int}, 0 ≤ p → p + j = 49 → (∀ k, 0 ≤ k → k < 49 → R k = if k < p then fwv7 y R0 k else R0 k) → ∀ k, 0 ≤ k → k < 49 → fwR7 y j p R k = fwv7 y R0 k := by
  have hcol : ∀ a, 0 ≤ a → a < 7 → fwv7 y R0 (7 * a + y) = R0 (7 * a + y) := fun a a0 a1 => by
    unfold fwv7
    rw [show (7 * a + y) % 7 = y by omega, show (7 * a + y) / 7 = a by omega, h0, Int.add_zero]
    unfold imin
    split <;> rfl
  have hrow : ∀ a, 0 ≤ a → a < 7 → fwv7 y R0 (7 * y + a) = R0 (7 * y + a) := fun a a0 a1 => by
    unfold fwv7
    rw [show (7 * y + a) % 7 = a by omega, show (7 * y + a) / 7 = y by omega, h0, Int.zero_add]
    unfold imin
    split <;> rfl
  induction j with
  | zero => intro p R _ h1 h k k0 k1; show R k = _; rw [h k k0 k1, if_pos (by omega)]
  | succ j ih =>
    intro p R p0 h1 h
    refine ih (by omega) (by omega) fun k k0 k1 => ?_
    by_cases hc : k = p
    · rw [hc, up_at, if_pos (by omega)]
      have c1 : R (7 * (p / 7) + y) = R0 (7 * (p / 7) + y) := by
        rw [h _ (by omega) (by omega)]
        split
        · exact hcol _ (by omega) (by omega)
        · rfl
      have c2 : R (7 * y + p % 7) = R0 (7 * y + p % 7) := by
        rw [h _ (by omega) (by omega)]
        split
        · exact hrow _ (by omega) (by omega)
        · rfl
      unfold fwv7
      rw [c1, c2, h p (by omega) (by omega), if_neg (by omega)]
    · rw [up_ne hc, h k k0 k1]
      by_cases hk : k < p
      · rw [if_pos hk, if_pos (by omega)]
      · rw [if_neg hk, if_neg (by omega)]
/-- some node has a way round to itself that is below 0 -/
def bad7 (R : Int → Int) : Prop := ∃ q, 0 ≤ q ∧ q < 7 ∧ R (7 * q + q) < 0
/-- closed by the nodes below y -/
def clB7 (R : Int → Int) (y : Int) : Prop := ∀ a b c, 0 ≤ a → a < 7 → 0 ≤ b → b < 7 → 0 ≤ c → c < y → R (7 * a + b) ≤ R (7 * a + c) + R (7 * c + b)
theorem fwR7_cl {y : Int} {R : Int → Int} (hy : 0 ≤ y ∧ y < 7) (hd : ∀ q, 0 ≤ q → q < 7 → R (7 * q + q) ≤ 0) (h : bad7 R ∨ clB7 R y) : bad7 (fwR7 y 49 0 R) ∨ clB7 (fwR7 y 49 0 R) (y + 1) := by
  rcases h with ⟨q, q0, q1, q2⟩ | h
  · exact Or.inl ⟨q, q0, q1, Int.lt_of_le_of_lt (fwR7_le _) q2⟩
  · by_cases h0 : R (7 * y + y) = 0
    · right
      have e := fwR7_eq (R0 := R) hy h0 (j := 49) (p := 0) (R := R) (Int.le_refl 0) rfl (fun k k0 k1 => by rw [if_neg (by omega)])
      have e2 : ∀ a b, 0 ≤ a → a < 7 → 0 ≤ b → b < 7 → fwR7 y 49 0 R (7 * a + b) = imin (R (7 * a + b)) (R (7 * a + y) + R (7 * y + b)) := fun a b a0 a1 b0 b1 => by
        rw [e _ (by omega) (by omega)]
        unfold fwv7
        rw [show (7 * a + b) % 7 = b by omega, show (7 * a + b) / 7 = a by omega]
      intro a b c a0 a1 b0 b1 c0 c1
      rw [e2 a b a0 a1 b0 b1, e2 a c a0 a1 c0 (by omega), e2 c b c0 (by omega) b0 b1]
      by_cases hc : c = y
      · rw [hc, h0]
        have := imin_le2 (R (7 * a + b)) (R (7 * a + y) + R (7 * y + b))
        have g1 : imin (R (7 * a + y)) (R (7 * a + y) + 0) = R (7 * a + y) := by unfold imin; split <;> omega
        have g2 : imin (R (7 * y + b)) (0 + R (7 * y + b)) = R (7 * y + b) := by unfold imin; split <;> omega
        rw [g1, g2]
        exact this
      · have k1 := h a b c a0 a1 b0 b1 c0 (by omega)
        have k2 := h a y c a0 a1 hy.1 hy.2 c0 (by omega)
        have k3 := h y b c hy.1 hy.2 b0 b1 c0 (by omega)
        have k4 := h y y c hy.1 hy.2 hy.1 hy.2 c0 (by omega)
        have f1 := imin_le1 (R (7 * a + b)) (R (7 * a + y) + R (7 * y + b))
        have f2 := imin_le2 (R (7 * a + b)) (R (7 * a + y) + R (7 * y + b))
        generalize imin (R (7 * a + b)) (R (7 * a + y) + R (7 * y + b)) = v at f1 f2 ⊢
        unfold imin
        split <;> split <;> omega
    · left
      exact ⟨y, hy.1, hy.2, Int.lt_of_le_of_lt (fwR7_le _) (by have := hd y hy.1 hy.2; omega)⟩
/-- all rounds: left, from y on -/
def fwA7 : Nat → Int → (Int → Int) → Int → Int
  | 0, _, R => R
  | j + 1, y, R => fwA7 j (y + 1) (fwR7 y 49 0 R)
theorem fwA7_le {j : Nat} : ∀ {y : Int} {R : Int → Int} (k : Int), fwA7 j y R k ≤ R k := by
  induction j with
  | zero => intro y R k; exact Int.le_refl _
  | succ j ih => intro y R k; exact Int.le_trans (ih k) (fwR7_le k)
theorem fwA7_sound {X : Int → Int → Int} (hX : cl 7 X) {j : Nat} : ∀ {y : Int} {R : Int → Int}, 0 ≤ y → y + j ≤ 7 → (∀ a b, 0 ≤ a → a < 7 → 0 ≤ b → b < 7 → X a b ≤ R (7 * a + b)) → ∀ a b, 0 ≤ a → a < 7 → 0 ≤ b → b < 7 → X a b ≤ fwA7 j y R (7 * a + b) := by
  induction j with
  | zero => intro y R _ _ h; exact h
  | succ j ih => intro y R h0 h1 h; exact ih (by omega) (by omega) (fwR7_sound hX ⟨h0, by omega⟩ (Int.le_refl 0) (by decide) h)
theorem fwA7_cl {j : Nat} : ∀ {y : Int} {R : Int → Int}, 0 ≤ y → y + j = 7 → (∀ q, 0 ≤ q → q < 7 → R (7 * q + q) ≤ 0) → bad7 R ∨ clB7 R y → bad7 (fwA7 j y R) ∨ clB7 (fwA7 j y R) 7 := by
  induction j with
  | zero => intro y R _ h1 _ h; have e : y = 7 := by omega
            subst e; exact h
  | succ j ih => intro y R h0 h1 hd h; exact ih (by omega) (by omega) (fun q q0 q1 => Int.le_trans (fwR7_le _) (hd q q0 q1)) (fwR7_cl ⟨h0, by omega⟩ hd h)
theorem fwA7_main {R : Int → Int} (hd : ∀ q, 0 ≤ q → q < 7 → R (7 * q + q) ≤ 0) : bad7 (fwA7 7 0 R) ∨ cl 7 (fun a b => fwA7 7 0 R (7 * a + b)) := by
  rcases fwA7_cl (j := 7) (y := 0) (R := R) (Int.le_refl 0) rfl hd (Or.inr fun a b c a0 a1 b0 b1 c0 c1 => by omega) with h | h
  · exact Or.inl h
  · by_cases hb : bad7 (fwA7 7 0 R)
    · exact Or.inl hb
    · right
      refine ⟨fun a a0 a1 => ?_, h⟩
      have h1 : fwA7 7 0 R (7 * a + a) ≤ 0 := Int.le_trans (fwA7_le _) (hd a a0 a1)
      have h2 : ¬ fwA7 7 0 R (7 * a + a) < 0 := fun g => hb ⟨a, a0, a1, g⟩
      show fwA7 7 0 R (7 * a + a) = 0
      omega
theorem bad7_no {R : Int → Int} (h : bad7 R) : ¬ ∃ X, cl 7 X ∧ ∀ a b, 0 ≤ a → a < 7 → 0 ≤ b → b < 7 → X a b ≤ R (7 * a + b) := by
  rintro ⟨X, hX, hb⟩
  obtain ⟨q, q0, q1, q2⟩ := h
  have h1 := hb q q q0 q1 q0 q1
  have h2 := hX.1 q q0 q1
  omega
