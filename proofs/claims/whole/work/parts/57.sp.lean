/-! seven nodes: the spans as the greatest table that is closed -/
def cst (B E L sk : Int → Int) (n : Int) (X : Int → Int → Int) : Prop := (∀ q, in6 q → X 6 q ≤ E q ∧ X q 6 ≤ -B q) ∧ lkC L sk n X
def spC (B E L sk : Int → Int) (n : Int) : Prop := ∃ X, cl 7 X ∧ cst B E L sk n X
def spK (B E L sk : Int → Int) (n : Int) (O : Int → Int → Int) : Prop := cl 7 O ∧ cst B E L sk n O ∧ ∀ X, cl 7 X → cst B E L sk n X → ∀ a b, 0 ≤ a → a < 7 → 0 ≤ b → b < 7 → X a b ≤ O a b
/-- the table -/
noncomputable def spO (B E L sk : Int → Int) (n : Int) : Int → Int → Int := Classical.epsilon (spK B E L sk n)
theorem spO_eq {B E L sk : Int → Int} {n : Int} {O : Int → Int → Int} (h : spK B E L sk n O) {a b : Int} (a0 : 0 ≤ a) (a1 : a < 7) (b0 : 0 ≤ b) (b1 : b < 7) : O a b = spO B E L sk n a b := by
  have g : spK B E L sk n (spO B E L sk n) := Classical.epsilon_spec (p := spK B E L sk n) ⟨O, h⟩
  exact Int.le_antisymm (g.2.2 O h.1 h.2.1 a b a0 a1 b0 b1) (h.2.2 _ g.1 g.2.1 a b a0 a1 b0 b1)
theorem cst_congr {B B' E E' L sk sk' : Int → Int} {n : Int} {X : Int → Int → Int} (hB : ∀ q, in6 q → B q = B' q) (hE : ∀ q, in6 q → E q = E' q) (hs : ∀ k, 0 ≤ k → k < n → sk k = sk' k) (h : cst B E L sk n X) : cst B' E' L sk' n X :=
  ⟨fun q hq => by rw [← hB q hq, ← hE q hq]; exact h.1 q hq, lkC_congr hs h.2⟩
theorem cst_iff {B B' E E' L sk sk' : Int → Int} {n : Int} (hB : ∀ q, in6 q → B q = B' q) (hE : ∀ q, in6 q → E q = E' q) (hs : ∀ k, 0 ≤ k → k < n → sk k = sk' k) : cst B E L sk n = cst B' E' L sk' n := by
  funext X
  exact propext ⟨cst_congr hB hE hs, cst_congr (fun q hq => (hB q hq).symm) (fun q hq => (hE q hq).symm) (fun k k0 k1 => (hs k k0 k1).symm)⟩
theorem spO_congr {B B' E E' L sk sk' : Int → Int} {n : Int} (hB : ∀ q, in6 q → B q = B' q) (hE : ∀ q, in6 q → E q = E' q) (hs : ∀ k, 0 ≤ k → k < n → sk k = sk' k) : spO B E L sk n = spO B' E' L sk' n := by
  unfold spO spK
  rw [cst_iff hB hE hs]
theorem spC_congr {B B' E E' L sk sk' : Int → Int} {n : Int} (hB : ∀ q, in6 q → B q = B' q) (hE : ∀ q, in6 q → E q = E' q) (hs : ∀ k, 0 ≤ k → k < n → sk k = sk' k) : spC B E L sk n = spC B' E' L sk' n := by
  unfold spC
  rw [cst_iff hB hE hs]
/-- bounds of each -/
theorem spK_in {B E L sk : Int → Int} {n : Int} {O : Int → Int → Int} (h : spK B E L sk n O) {q : Int} (hq : in6 q) : B q ≤ -O q 6 ∧ -O q 6 ≤ O 6 q ∧ O 6 q ≤ E q := by
  have h1 := h.2.1.1 q hq
  have h2 := h.1.2 6 6 q (by omega) (by omega) (by omega) (by omega) hq.1 (by omega)
  have h3 := h.1.1 6 (by omega) (by omega)
  omega
theorem spK_pair {B E L sk : Int → Int} {n : Int} {O : Int → Int → Int} (h : spK B E L sk n O) {a b : Int} (ha : in6 a) (hb : in6 b) : -999 - 1001 ≤ O a b + (E a - 999) - (B b - 1001) + 0 ∧ O a b ≤ E b - B a := by
  have h1 := h.2.1.1 b hb
  have h2 := h.2.1.1 a ha
  have h3 := h.1.2 a b 6 ha.1 (by omega) hb.1 (by omega) (by omega) (by omega)
  have h4 := h.1.2 6 b a (by omega) (by omega) hb.1 (by omega) ha.1 (by omega)
  have g := spK_in h ha
  have g2 := spK_in h hb
  omega
/-- what the class's rows tell -/
theorem sp_main {B E L sk D Lo Hi : Int → Int} {n v v5 : Int} (hL : lkOk L n) (hB : ∀ q, in6 q → 0 ≤ B q) (hE : ∀ q, in6 q → E q ≤ 999) (hT : tieOk L sk n D v5)
    (hLo : ∀ i, 0 ≤ i → i < 6 → Lo i = cuL B D i 6 0 (B i) ∧ Hi i = cuH E D i 6 0 (E i))
    (hv : (v = 1 ∧ v5 = 1 ∧ ∀ i, 0 ≤ i → i < 6 → B i ≤ cuH E D i 6 0 (E i)) ∨ (v = 0 ∧ (v5 = 0 ∨ ∃ i, 0 ≤ i ∧ i < 6 ∧ cuH E D i 6 0 (E i) < B i))) :
    (v = 1 ∧ ∃ O, spK B E L sk n O ∧ (∀ q, in6 q → Lo q = -O q 6 ∧ Hi q = O 6 q) ∧ ∀ a b, in6 a → in6 b → imin (D (6 * a + b)) (Hi b - Lo a) = O a b) ∨ (v = 0 ∧ ¬ spC B E L sk n) := by
  have c6 : ∀ X, cl 7 X → cl 6 X := fun X h => ⟨fun a a0 a1 => h.1 a a0 (by omega), fun a b c a0 a1 b0 b1 c0 c1 => h.2 a b c a0 (by omega) b0 (by omega) c0 (by omega)⟩
  have x999 : ∀ X, cl 7 X → cst B E L sk n X → ∀ a b, 0 ≤ a → a < 6 → 0 ≤ b → b < 6 → X a b ≤ 999 := fun X h g a b a0 a1 b0 b1 => by
    have h1 := g.1 a ⟨a0, by omega⟩
    have h2 := g.1 b ⟨b0, by omega⟩
    have h3 := h.2 a b 6 a0 (by omega) b0 (by omega) (by omega) (by omega)
    have h4 := hB a ⟨a0, by omega⟩
    have h5 := hE b ⟨b0, by omega⟩
    omega
  rcases hT with ⟨w1, d1, d2, d3, d4⟩ | ⟨w0, d0⟩
  · have xD : ∀ X, cl 7 X → cst B E L sk n X → ∀ a b, 0 ≤ a → a < 6 → 0 ≤ b → b < 6 → X a b ≤ D (6 * a + b) := fun X h g => d4 X (c6 X h) (x999 X h g) g.2
    have xH : ∀ X, cl 7 X → cst B E L sk n X → ∀ q, 0 ≤ q → q < 6 → X 6 q ≤ cuH E D q 6 0 (E q) := fun X h g q q0 q1 => by
      rcases @cuH_is E D q 6 0 (E q) with e | ⟨i, i0, i1, e⟩
      · rw [e]; exact (g.1 q ⟨q0, by omega⟩).1
      · rw [e]
        have h1 := (g.1 i ⟨i0, by omega⟩).1
        have h2 := xD X h g i q i0 (by omega) q0 q1
        have h3 := h.2 6 q i (by omega) (by omega) q0 (by omega) i0 (by omega)
        omega
    have xL : ∀ X, cl 7 X → cst B E L sk n X → ∀ q, 0 ≤ q → q < 6 → X q 6 ≤ -cuL B D q 6 0 (B q) := fun X h g q q0 q1 => by
      rcases @cuL_is B D q 6 0 (B q) with e | ⟨i, i0, i1, e⟩
      · rw [e]; exact (g.1 q ⟨q0, by omega⟩).2
      · rw [e]
        have h1 := (g.1 i ⟨i0, by omega⟩).2
        have h2 := xD X h g q i q0 q1 i0 (by omega)
        have h3 := h.2 q 6 i q0 (by omega) (by omega) (by omega) i0 (by omega)
        omega
    rcases hv with ⟨hv, -, hp⟩ | ⟨hv, hv2⟩
    · refine Or.inl ⟨hv, ?_⟩
      have eL : ∀ q, in6 q → ∃ i, in6 i ∧ Lo q = B i - D (6 * q + i) := fun q hq => by
        rw [(hLo q hq.1 (by omega)).1]
        rcases @cuL_is B D q 6 0 (B q) with e | ⟨i, i0, i1, e⟩
        · exact ⟨q, hq, by rw [e]; have := d1.1 q hq.1 (by omega); dsimp only at this; omega⟩
        · exact ⟨i, ⟨i0, by omega⟩, e⟩
      have eH : ∀ q, in6 q → ∃ i, in6 i ∧ Hi q = E i + D (6 * i + q) := fun q hq => by
        rw [(hLo q hq.1 (by omega)).2]
        rcases @cuH_is E D q 6 0 (E q) with e | ⟨i, i0, i1, e⟩
        · exact ⟨q, hq, by rw [e]; have := d1.1 q hq.1 (by omega); dsimp only at this; omega⟩
        · exact ⟨i, ⟨i0, by omega⟩, e⟩
      have gL : ∀ q i, in6 q → in6 i → B i - D (6 * q + i) ≤ Lo q := fun q i hq hi => by
        rw [(hLo q hq.1 (by omega)).1]
        exact cuL_ge i hi.1 (by omega)
      have gH : ∀ q i, in6 q → in6 i → Hi q ≤ E i + D (6 * i + q) := fun q i hq hi => by
        rw [(hLo q hq.1 (by omega)).2]
        exact cuH_le i hi.1 (by omega)
      have gB : ∀ q, in6 q → B q ≤ Hi q := fun q hq => by
        rw [(hLo q hq.1 (by omega)).2]
        exact hp q hq.1 (by omega)
      have gBL : ∀ q, in6 q → B q ≤ Lo q := fun q hq => by rw [(hLo q hq.1 (by omega)).1]; exact cuL_up
      have gEH : ∀ q, in6 q → Hi q ≤ E q := fun q hq => by rw [(hLo q hq.1 (by omega)).2]; exact cuH_dn
      have dT : ∀ a b c, in6 a → in6 b → in6 c → D (6 * a + b) ≤ D (6 * a + c) + D (6 * c + b) := fun a b c ha hb hc => d1.2 a b c ha.1 (by omega) hb.1 (by omega) hc.1 (by omega)
      have d0 : ∀ a, in6 a → D (6 * a + a) = 0 := fun a ha => d1.1 a ha.1 (by omega)
      have f1 : ∀ a b, in6 a → in6 b → Lo b - D (6 * a + b) ≤ Lo a := fun a b ha hb => by
        obtain ⟨i, hi, e⟩ := eL b hb
        have := gL a i ha hi
        have := dT a i b ha hi hb
        omega
      have f2 : ∀ a b, in6 a → in6 b → Hi b ≤ Hi a + D (6 * a + b) := fun a b ha hb => by
        obtain ⟨i, hi, e⟩ := eH a ha
        have := gH b i hb hi
        have := dT i b a hi hb ha
        omega
      have f3 : ∀ q, in6 q → Lo q ≤ Hi q := fun q hq => by
        obtain ⟨i, hi, e⟩ := eL q hq
        have h1 := gB i hi
        have h2 := f2 q i hq hi
        omega
      refine ⟨fun a b => if a = 6 then (if b = 6 then 0 else Hi b) else if b = 6 then -Lo a else imin (D (6 * a + b)) (Hi b - Lo a), ⟨⟨?_, ?_⟩, ⟨?_, ?_⟩, ?_⟩, ?_, ?_⟩
      · intro a a0 a1
        dsimp only
        by_cases h : a = 6
        · rw [if_pos h, if_pos h]
        · have := d0 a ⟨a0, by omega⟩
          have := f3 a ⟨a0, by omega⟩
          rw [if_neg h, if_neg h]
          unfold imin
          split <;> omega
      · intro a b c a0 a1 b0 b1 c0 c1
        by_cases ha : a = 6
        · by_cases hb : b = 6
          · by_cases hc : c = 6
            · simp only [if_pos ha, if_pos hb, if_pos hc]; omega
            · have := f3 c ⟨c0, by omega⟩
              simp only [if_pos ha, if_pos hb, if_neg hc]; omega
          · by_cases hc : c = 6
            · simp only [if_pos ha, if_neg hb, if_pos hc]; omega
            · have h1 := f2 c b ⟨c0, by omega⟩ ⟨b0, by omega⟩
              have h2 := f3 c ⟨c0, by omega⟩
              simp only [if_pos ha, if_neg hb, if_neg hc]
              unfold imin
              split <;> omega
        · by_cases hb : b = 6
          · by_cases hc : c = 6
            · simp only [if_neg ha, if_pos hb, if_pos hc]; omega
            · have h1 := f1 a c ⟨a0, by omega⟩ ⟨c0, by omega⟩
              have h2 := f3 c ⟨c0, by omega⟩
              simp only [if_neg ha, if_pos hb, if_neg hc]
              unfold imin
              split <;> omega
          · by_cases hc : c = 6
            · simp only [if_neg ha, if_neg hb, if_pos hc]
              have := imin_le2 (D (6 * a + b)) (Hi b - Lo a)
              omega
            · have h1 := f1 a c ⟨a0, by omega⟩ ⟨c0, by omega⟩
              have h2 := f2 c b ⟨c0, by omega⟩ ⟨b0, by omega⟩
              have h3 := f3 c ⟨c0, by omega⟩
              have h4 := dT a b c ⟨a0, by omega⟩ ⟨b0, by omega⟩ ⟨c0, by omega⟩
              have g1 := imin_le1 (D (6 * a + b)) (Hi b - Lo a)
              have g2 := imin_le2 (D (6 * a + b)) (Hi b - Lo a)
              simp only [if_neg ha, if_neg hb, if_neg hc]
              generalize imin (D (6 * a + b)) (Hi b - Lo a) = z at g1 g2 ⊢
              unfold imin
              split <;> split <;> omega
      · intro q hq
        have h1 := gEH q hq
        have h2 := gBL q hq
        refine ⟨?_, ?_⟩
        · show (if (6 : Int) = 6 then (if q = 6 then 0 else Hi q) else _) ≤ _
          rw [if_pos rfl, if_neg (by omega)]; exact h1
        · show (if q = 6 then _ else if (6 : Int) = 6 then -Lo q else _) ≤ _
          rw [if_neg (by omega), if_pos rfl]; omega
      · intro k k0 k1 k2
        have l := hL k k0 k1
        have g := d3 k k0 k1 k2
        dsimp only at g ⊢
        rw [if_neg (by omega), if_neg (by omega), if_neg (by omega), if_neg (by omega)]
        exact ⟨Int.le_trans (imin_le1 _ _) g.1, Int.le_trans (imin_le1 _ _) g.2⟩
      · intro X hX g a b a0 a1 b0 b1
        have q1 : ∀ q, 0 ≤ q → q < 6 → X 6 q ≤ Hi q := fun q q0 q1 => by rw [(hLo q q0 q1).2]; exact xH X hX g q q0 q1
        have q2 : ∀ q, 0 ≤ q → q < 6 → X q 6 ≤ -Lo q := fun q q0 q1 => by rw [(hLo q q0 q1).1]; exact xL X hX g q q0 q1
        dsimp only
        by_cases ha : a = 6
        · rw [if_pos ha]
          by_cases hb : b = 6
          · rw [if_pos hb, ha, hb, hX.1 6 (by omega) (by omega)]; exact Int.le_refl _
          · rw [if_neg hb, ha]; exact q1 b b0 (by omega)
        · rw [if_neg ha]
          by_cases hb : b = 6
          · rw [if_pos hb, hb]; exact q2 a a0 (by omega)
          · rw [if_neg hb]
            have h1 := q2 a a0 (by omega)
            have h2 := q1 b b0 (by omega)
            have h3 := hX.2 a b 6 a0 a1 b0 b1 (by omega) (by omega)
            exact imin_ge (xD X hX g a b a0 (by omega) b0 (by omega)) (by omega)
      · intro q hq
        refine ⟨?_, ?_⟩
        · show Lo q = -(if q = 6 then _ else if (6 : Int) = 6 then -Lo q else _)
          rw [if_neg (by omega), if_pos rfl]; omega
        · show Hi q = (if (6 : Int) = 6 then (if q = 6 then 0 else Hi q) else _)
          rw [if_pos rfl, if_neg (by omega)]
      · intro a b ha hb
        show _ = (if a = 6 then _ else if b = 6 then _ else imin (D (6 * a + b)) (Hi b - Lo a))
        rw [if_neg (by omega), if_neg (by omega)]
    · refine Or.inr ⟨hv, ?_⟩
      rintro ⟨X, hX, g⟩
      rcases hv2 with hv2 | ⟨q, q0, q1, hq⟩
      · omega
      · have h1 := xH X hX g q q0 q1
        have h2 := (g.1 q ⟨q0, by omega⟩).2
        have h3 := hX.2 6 6 q (by omega) (by omega) (by omega) (by omega) q0 (by omega)
        have h4 := hX.1 6 (by omega) (by omega)
        omega
  · rcases hv with ⟨-, hv5, -⟩ | ⟨hv, -⟩
    · omega
    · refine Or.inr ⟨hv, ?_⟩
      rintro ⟨X, hX, g⟩
      exact d0 ⟨X, c6 X hX, x999 X hX g, g.2⟩
