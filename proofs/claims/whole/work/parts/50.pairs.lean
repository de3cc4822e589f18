theorem p_count {S : XS} {M N : YM} {x : Int} (hx : -2147483648 ≤ x ∧ x < 2147483648) (R : Rel M) : pri S 52 118 [yi x] M N := by
  refine rm_post (rm_deep (Nat.le_of_ble_eq_true rfl) (c_count hx)) ?_
  rintro _ _ _ ⟨v, rfl, hv, rfl, rfl⟩
  refine ⟨v, rfl, rm_post (rm_deep (Nat.le_of_ble_eq_true rfl) (m_count hx)) ?_⟩
  rintro _ _ _ ⟨v2, rfl, hv2, rfl, rfl⟩
  have r1 := R.s.1
  have r2 := R.l.1
  have r3 := R.s.2.2.1
  have r4 := R.t.1
  have r5 := R.t.2.2.1
  have r6 := R.r.1
  exact ⟨by rw [show v = v2 by omega], R⟩
theorem p_told {S : XS} {M N : YM} {x y : Int} (hx : -2147483648 ≤ x ∧ x < 2147483648) (hy : -2147483648 ≤ y ∧ y < 2147483648) (R : Rel M) : pri S 59 142 [yi x, yi y] M N := by
  refine rm_post (rm_deep (Nat.le_of_ble_eq_true rfl) (c_told R.s.inv hx hy)) ?_
  rintro _ _ _ ⟨v, rfl, hv, rfl, rfl⟩
  refine ⟨v, rfl, rm_post (rm_deep (Nat.le_of_ble_eq_true rfl) (m_told R.s.inv hx hy)) ?_⟩
  rintro _ _ _ ⟨v2, rfl, hv2, rfl, rfl⟩
  exact ⟨by rw [hv, hv2], R⟩
theorem p_linkTold {S : XS} {M N : YM} {x y : Int} (hx : -2147483648 ≤ x ∧ x < 2147483648) (hy : -2147483648 ≤ y ∧ y < 2147483648) (R : Rel M) : pri S 61 144 [yi x, yi y] M N := by
  refine rm_post (rm_deep (Nat.le_of_ble_eq_true rfl) (c_linkTold R.l.inv hx hy)) ?_
  rintro _ _ _ ⟨v, rfl, hv, rfl, rfl⟩
  refine ⟨v, rfl, rm_post (rm_deep (Nat.le_of_ble_eq_true rfl) (m_linkTold R.l.inv hx hy)) ?_⟩
  rintro _ _ _ ⟨v2, rfl, hv2, rfl, rfl⟩
  exact ⟨by rw [hv, hv2], R⟩
theorem p_clashes {S : XS} {M N : YM} {w : Int} (hw : -2147483648 ≤ w ∧ w < 2147483648) (R : Rel M) : pri S 65 155 [yi w] M N := by
  refine rm_post (rm_deep (Nat.le_of_ble_eq_true rfl) (c_clashes hw R.s.inv)) ?_
  rintro _ _ _ ⟨v, rfl, hv, rfl, rfl⟩
  refine ⟨v, rfl, rm_post (rm_deep (Nat.le_of_ble_eq_true rfl) (m_clashes hw R.s.inv)) ?_⟩
  rintro _ _ _ ⟨v2, rfl, hv2, rfl, rfl⟩
  exact ⟨by rw [hv, hv2], R⟩
theorem p_lies {S : XS} {M N : YM} {s : Int} (hs : -2147483648 ≤ s ∧ s < 2147483648) (R : Rel M) : pri S 75 174 [yi s] M N := by
  refine rm_post (rm_deep (Nat.le_of_ble_eq_true rfl) (c_lies hs R.s R.h)) ?_
  rintro _ _ _ ⟨v, rfl, hv, rfl, rfl⟩
  refine ⟨v, rfl, rm_post (rm_deep (Nat.le_of_ble_eq_true rfl) (m_lies hs R.s R.h)) ?_⟩
  rintro _ _ _ ⟨v2, rfl, hv2, rfl, rfl⟩
  exact ⟨by rw [hv, hv2], R⟩
theorem p_breaks {S : XS} {M N : YM} {s : Int} (hs : -2147483648 ≤ s ∧ s < 2147483648) (R : Rel M) : pri S 76 175 [yi s] M N := by
  refine rm_post (rm_deep (Nat.le_of_ble_eq_true rfl) (c_breaks hs R.l R.h)) ?_
  rintro _ _ _ ⟨v, rfl, hv, rfl, rfl⟩
  refine ⟨v, rfl, rm_post (rm_deep (Nat.le_of_ble_eq_true rfl) (m_breaks hs R.l R.h)) ?_⟩
  rintro _ _ _ ⟨v2, rfl, hv2, rfl, rfl⟩
  exact ⟨by rw [hv, hv2], R⟩
theorem p_taken {S : XS} {M N : YM} {x w : Int} (hx : -2147483648 ≤ x ∧ x < 2147483648) (hw : -2147483648 ≤ w ∧ w < 2147483648) (R : Rel M) : pri S 89 191 [yi x, yi w] M N := by
  refine rm_post (rm_deep (Nat.le_of_ble_eq_true rfl) (c_taken R.s.inv R.l.inv hx hw)) ?_
  rintro _ _ _ ⟨v, rfl, hv, rfl, rfl⟩
  refine ⟨v, rfl, rm_post (rm_deep (Nat.le_of_ble_eq_true rfl) (m_taken R.s.inv R.l.inv hx hw)) ?_⟩
  rintro _ _ _ ⟨v2, rfl, hv2, rfl, rfl⟩
  exact ⟨by rw [hv, hv2], R⟩
theorem p_set {S : XS} {M N : YM} {x : Int} (hx : -2147483648 ≤ x ∧ x < 2147483648) (R : Rel M) : pri S 53 119 [yi x] M N := by
  refine rm_post (rm_deep (Nat.le_of_ble_eq_true rfl) (c_set hx)) ?_
  rintro _ M1 _ ⟨v, rfl, hv, rfl⟩
  refine ⟨v, rfl, rm_post (rm_deep (Nat.le_of_ble_eq_true rfl) (m_set hx)) ?_⟩
  rintro _ M2 _ ⟨v2, rfl, hv2, rfl⟩
  have fr : ∀ c k, (c ≠ 1 ∨ k ≠ 3) → (c ≠ 75 ∨ k ≠ 4) → M2 c k = M c k := fun c k h1 h2 => by
    rcases hv with ⟨-, -, -, e⟩ | ⟨-, -, e⟩ <;> rcases hv2 with ⟨-, -, -, e2⟩ | ⟨-, -, e2⟩ <;> rw [← e2, ← e]
    · rw [yu_ne (by omega), yu_ne (by omega)]
    · rw [yu_ne (by omega)]
    · rw [yu_ne (by omega)]
  have r3 := R.s.2.2.1
  have h4 : M1 75 4 = M 75 4 := by
    rcases hv with ⟨-, -, -, e⟩ | ⟨-, -, e⟩ <;> rw [← e]
    rw [yu_ne (by omega)]
  refine ⟨by rw [show v = v2 by omega], ?_⟩
  have hRS : RS M2 M2 := by
    rcases hv with ⟨x0, x1, -, e⟩ | ⟨n, -, e⟩
    · rcases hv2 with ⟨-, -, -, e2⟩ | ⟨n2, -⟩
      · have a3 : M2 1 3 = x := by rw [← e2, ← e, yu_ne (by omega), yu_at]
        have b4 : M2 75 4 = x := by rw [← e2, yu_at]
        obtain ⟨q1, q2, q3, q4, q5⟩ := R.s
        refine ⟨by rw [fr 1 1 (by omega) (by omega), fr 75 0 (by omega) (by omega)]; exact q1, by rw [fr 75 0 (by omega) (by omega)]; exact q2, by rw [a3, b4], by rw [b4]; exact ⟨x0, x1⟩, fun s s0 s1 => ?_⟩
        rw [fr 75 0 (by omega) (by omega)] at s1
        rw [fr (3 + s) _ (by omega) (by omega), fr (3 + s) _ (by omega) (by omega), fr (3 + s) _ (by omega) (by omega), fr (3 + s) _ (by omega) (by omega), fr (3 + s) _ (by omega) (by omega)]
        simp only [fr 76 _ (Or.inl (by decide)) (Or.inl (by decide))]
        exact q5 s s0 s1
      · omega
    · rcases hv2 with ⟨y0, y1, -⟩ | ⟨-, -, e2⟩
      · omega
      · rw [← e2, ← e]; exact R.s
  exact ⟨hRS, R.l.fr (fun c k h => fr c k (by omega) (by omega)) (fun c k h => fr c k (by omega) (by omega)), R.h.fr (fun c k h => fr c k (by omega) (by omega)) (fun c k h => fr c k (by omega) (by omega)), R.i.fr (fun c k h => fr c k (by omega) (by omega)) (fun c k h => fr c k (by omega) (by omega)), R.t.fr (fun c k h => fr c k (by omega) (by omega)) (fun c k h => fr c k (by omega) (by omega)), R.r.fr (fun c k h => fr c k (by omega) (by omega)) (fun c k h => fr c k (by omega) (by omega)), R.w.fr (fun k => fr 86 k (by omega) (by omega))⟩
theorem p_force {S : XS} {M N : YM} {x : Int} (hx : -2147483648 ≤ x ∧ x < 2147483648) (R : Rel M) : pri S 56 135 [yi x] M N := by
  refine rm_post (rm_deep (Nat.le_of_ble_eq_true rfl) (c_force hx (by rw [R.t.1]; have := R.t.2.1; omega))) ?_
  rintro _ M1 _ ⟨v, rfl, hv, rfl⟩
  refine ⟨v, rfl, rm_post (rm_deep (Nat.le_of_ble_eq_true rfl) (m_force hx (by have h9 : M1 75 9 = M 75 9 := (by rcases hv with ⟨-, -, -, e⟩ | ⟨-, -, e⟩ <;> rw [← e]; rw [yu_ne (by omega)]); rw [h9]; have := R.t.2.1; omega))) ?_⟩
  rintro _ M2 _ ⟨v2, rfl, hv2, rfl⟩
  have h9 : M1 75 9 = M 75 9 := by
    rcases hv with ⟨-, -, -, e⟩ | ⟨-, -, e⟩ <;> rw [← e]
    rw [yu_ne (by omega)]
  have fr : ∀ c k, (c ≠ 1 ∨ k ≠ 4) → (c ≠ 75 ∨ k ≠ 10) → M2 c k = M c k := fun c k h1 h2 => by
    rcases hv with ⟨-, -, -, e⟩ | ⟨-, -, e⟩ <;> rcases hv2 with ⟨-, -, -, e2⟩ | ⟨-, -, e2⟩ <;> rw [← e2, ← e]
    · rw [yu_ne (by omega), yu_ne (by omega)]
    · rw [yu_ne (by omega)]
    · rw [yu_ne (by omega)]
  have r3 := R.t.2.2.1
  have r1 := R.t.1
  have h4 : M1 75 10 = M 75 10 := by
    rcases hv with ⟨-, -, -, e⟩ | ⟨-, -, e⟩ <;> rw [← e]
    rw [yu_ne (by omega)]
  refine ⟨by rw [show v = v2 by omega], ?_⟩
  have hRT : RT M2 M2 := by
    rcases hv with ⟨x0, x1, -, e⟩ | ⟨n, -, e⟩
    · rcases hv2 with ⟨-, -, -, e2⟩ | ⟨n2, -⟩
      · have a3 : M2 1 4 = x := by rw [← e2, ← e, yu_ne (by omega), yu_at]
        have b4 : M2 75 10 = x := by rw [← e2, yu_at]
        have b9 := fr 75 9 (by omega) (by omega)
        obtain ⟨q1, q2, q3, q4, q5⟩ := R.t
        refine ⟨by rw [fr 0 5 (by omega) (by omega), b9]; exact q1, by rw [b9]; exact q2, by rw [a3, b4], by rw [b4, b9]; omega, fun s s0 s1 => ?_⟩
        rw [b9] at s1
        have a0 : M2 (49 + 3 * s) 3 = M (49 + 3 * s) 3 := fr _ _ (by omega) (by omega)
        have a1 : M2 (50 + 3 * s) = M (50 + 3 * s) := funext fun k => fr _ _ (by omega) (by omega)
        have a2 : M2 (51 + 3 * s) = M (51 + 3 * s) := funext fun k => fr _ _ (by omega) (by omega)
        have a4 : (fun k => M2 79 (200 * s + k)) = fun k => M 79 (200 * s + k) := funext fun k => fr _ _ (by omega) (by omega)
        have a5 : (fun k => M2 80 (4 * s + k)) = fun k => M 80 (4 * s + k) := funext fun k => fr _ _ (by omega) (by omega)
        rw [a0, a1, a2, a4, a5]
        exact q5 s s0 s1
      · omega
    · rcases hv2 with ⟨y0, y1, -⟩ | ⟨-, -, e2⟩
      · omega
      · rw [← e2, ← e]; exact R.t
  exact ⟨R.s.fr (fun c k h => fr c k (by omega) (by omega)) (fun c k h => fr c k (by omega) (by omega)), R.l.fr (fun c k h => fr c k (by omega) (by omega)) (fun c k h => fr c k (by omega) (by omega)), R.h.fr (fun c k h => fr c k (by omega) (by omega)) (fun c k h => fr c k (by omega) (by omega)), R.i.fr (fun c k h => fr c k (by omega) (by omega)) (fun c k h => fr c k (by omega) (by omega)), hRT, R.r.fr (fun c k h => fr c k (by omega) (by omega)) (fun c k h => fr c k (by omega) (by omega)), R.w.fr (fun k => fr 86 k (by omega) (by omega))⟩
theorem p_unsay {S : XS} {M N : YM}  (R : Rel M) : pri S 58 137 [] M N := by
  refine rm_post (rm_deep (Nat.le_of_ble_eq_true rfl) (c_unsay (by rw [R.s.1]; exact R.s.2.1))) ?_
  rintro _ M1 _ ⟨v, rfl, hv, rfl⟩
  refine ⟨v, rfl, rm_post (rm_deep (Nat.le_of_ble_eq_true rfl) (m_unsay (by have h4 : M1 75 0 = M 75 0 := (by rcases hv with ⟨-, -, e⟩ | ⟨-, -, e⟩ <;> rw [← e]; rw [yu_ne (by omega)]); rw [h4]; exact R.s.2.1))) ?_⟩
  rintro _ M2 _ ⟨v2, rfl, hv2, rfl⟩
  have h4 : M1 75 0 = M 75 0 := by
    rcases hv with ⟨-, -, e⟩ | ⟨-, -, e⟩ <;> rw [← e]
    rw [yu_ne (by omega)]
  have fr : ∀ c k, (c ≠ 1 ∨ k ≠ 1) → (c ≠ 75 ∨ k ≠ 0) → M2 c k = M c k := fun c k h1 h2 => by
    rcases hv with ⟨-, -, e⟩ | ⟨-, -, e⟩ <;> rcases hv2 with ⟨-, -, e2⟩ | ⟨-, -, e2⟩ <;> rw [← e2, ← e]
    · rw [yu_ne (by omega), yu_ne (by omega)]
    · rw [yu_ne (by omega)]
    · rw [yu_ne (by omega)]
  have r1 := R.s.1
  have r2 := R.s.2.1
  refine ⟨by rw [show v = v2 by omega], ?_⟩
  have hRS : RS M2 M2 := by
    rcases hv with ⟨x0, -, e⟩ | ⟨n, -, e⟩
    · rcases hv2 with ⟨-, -, e2⟩ | ⟨n2, -⟩
      · have a3 : M2 1 1 = M 1 1 - 1 := by rw [← e2, ← e, yu_ne (by omega), yu_at]
        have b4 : M2 75 0 = M 75 0 - 1 := by rw [← e2, yu_at, h4]
        obtain ⟨q1, q2, q3, q4, q5⟩ := R.s
        refine ⟨by rw [a3, b4, q1], by rw [b4]; omega, by rw [fr 1 3 (by omega) (by omega), fr 75 4 (by omega) (by omega)]; exact q3, by rw [fr 75 4 (by omega) (by omega)]; exact q4, fun s s0 s1 => ?_⟩
        rw [b4] at s1
        rw [fr (3 + s) _ (by omega) (by omega), fr (3 + s) _ (by omega) (by omega), fr (3 + s) _ (by omega) (by omega), fr (3 + s) _ (by omega) (by omega), fr (3 + s) _ (by omega) (by omega)]
        simp only [fr 76 _ (Or.inl (by decide)) (Or.inl (by decide))]
        exact q5 s s0 (by omega)
      · omega
    · rcases hv2 with ⟨y0, -⟩ | ⟨-, -, e2⟩
      · omega
      · rw [← e2, ← e]; exact R.s
  exact ⟨hRS, R.l.fr (fun c k h => fr c k (by omega) (by omega)) (fun c k h => fr c k (by omega) (by omega)), R.h.fr (fun c k h => fr c k (by omega) (by omega)) (fun c k h => fr c k (by omega) (by omega)), R.i.fr (fun c k h => fr c k (by omega) (by omega)) (fun c k h => fr c k (by omega) (by omega)), R.t.fr (fun c k h => fr c k (by omega) (by omega)) (fun c k h => fr c k (by omega) (by omega)), R.r.fr (fun c k h => fr c k (by omega) (by omega)) (fun c k h => fr c k (by omega) (by omega)), R.w.fr (fun k => fr 86 k (by omega) (by omega))⟩
theorem p_say {S : XS} {M N : YM} {km o lo hi : Int} (hkm : -2147483648 ≤ km ∧ km < 2147483648) (ho : -2147483648 ≤ o ∧ o < 2147483648) (hlo : -2147483648 ≤ lo ∧ lo < 2147483648) (hhi : -2147483648 ≤ hi ∧ hi < 2147483648) (R : Rel M) : pri S 57 136 [yi km, yi o, yi lo, yi hi] M N := by
  refine rm_post (rm_deep (Nat.le_of_ble_eq_true rfl) (c_say hkm ho hlo hhi (by rw [R.s.1]; exact R.s.2.1))) ?_
  rintro _ M1 _ ⟨v, rfl, hv, rfl⟩
  refine ⟨v, rfl, rm_post (rm_deep (Nat.le_of_ble_eq_true rfl) (m_say hkm ho hlo hhi (by have h4 : M1 75 0 = M 75 0 := (by rcases hv with ⟨g, n, -, e⟩ | ⟨g, n, -, e⟩ | ⟨g, -, e⟩ <;> rw [← e]; exact cSaid_ne (by omega) (by have := R.s.1; have := R.s.2.1; omega)); rw [h4]; exact R.s.2.1))) ?_⟩
  rintro _ M2 _ ⟨v2, rfl, hv2, rfl⟩
  have h4 : M1 75 0 = M 75 0 := by
    rcases hv with ⟨g, n, -, e⟩ | ⟨g, n, -, e⟩ | ⟨g, -, e⟩ <;> rw [← e]
    exact cSaid_ne (by omega) (by have := R.s.1; have := R.s.2.1; omega)
  have r1 := R.s.1
  have r2 := R.s.2.1
  refine ⟨by rw [show v = v2 by omega], ?_⟩
  rcases hv with ⟨g, n, -, e⟩ | ⟨g, n, -, e⟩ | ⟨g, -, e⟩
  · rcases hv2 with ⟨-, -, -, e2⟩ | ⟨-, n2, -⟩ | ⟨g2, -⟩
    · have m1 : ∀ c k, (c ≠ 1 ∨ k ≠ 1) → (c < 3 ∨ 12 < c) → M1 c k = M c k := fun c k h1 h2 => by rw [← e]; exact cSaid_ne h1 (by omega)
      have fr : ∀ c k, ((c ≠ 1 ∨ k ≠ 1) ∧ (c < 3 ∨ 12 < c)) → (c ≠ 75 ∨ k ≠ 0) ∧ c ≠ 76 → M2 c k = M c k := fun c k h1 h2 => by rw [← e2, mSaid_ne h2.1 h2.2]; exact m1 c k h1.1 h1.2
      have hN : RS M2 M2 := by
        have h0 : RS M1 (mSaid M km o lo hi) := by rw [← e]; exact R.s.said g (by omega)
        refine h0.fr (fun c k h => by rw [← e2]; exact mSaid_ne (by omega) (by omega)) (fun c k h => by rw [← e2]; exact mSaid_congr h4 (m1 c k (by omega) (by omega)))
      exact ⟨hN, R.l.fr (fun c k h => fr c k (by omega) (by omega)) (fun c k h => fr c k (by omega) (by omega)), R.h.fr (fun c k h => fr c k (by omega) (by omega)) (fun c k h => fr c k (by omega) (by omega)), R.i.fr (fun c k h => fr c k (by omega) (by omega)) (fun c k h => fr c k (by omega) (by omega)), R.t.fr (fun c k h => fr c k (by omega) (by omega)) (fun c k h => fr c k (by omega) (by omega)), R.r.fr (fun c k h => fr c k (by omega) (by omega)) (fun c k h => fr c k (by omega) (by omega)), R.w.fr (fun k => fr 86 k (by omega) (by omega))⟩
    · omega
    · exact absurd g g2
  · rcases hv2 with ⟨-, n2, -⟩ | ⟨-, -, -, e2⟩ | ⟨g2, -⟩
    · omega
    · rw [← e2, ← e]; exact R
    · exact absurd g g2
  · rcases hv2 with ⟨g2, -⟩ | ⟨g2, -⟩ | ⟨-, -, e2⟩
    · exact absurd g2 g
    · exact absurd g2 g
    · rw [← e2, ← e]; exact R
theorem p_link {S : XS} {M N : YM} {a b lo hi : Int} (ha : -2147483648 ≤ a ∧ a < 2147483648) (hb : -2147483648 ≤ b ∧ b < 2147483648) (hlo : -2147483648 ≤ lo ∧ lo < 2147483648) (hhi : -2147483648 ≤ hi ∧ hi < 2147483648) (R : Rel M) : pri S 60 143 [yi a, yi b, yi lo, yi hi] M N := by
  refine rm_post (rm_deep (Nat.le_of_ble_eq_true rfl) (c_link ha hb hlo hhi (by rw [R.l.1]; exact R.l.2.1))) ?_
  rintro _ M1 _ ⟨v, rfl, hv, rfl⟩
  refine ⟨v, rfl, rm_post (rm_deep (Nat.le_of_ble_eq_true rfl) (m_link ha hb hlo hhi (by have h4 : M1 75 2 = M 75 2 := (by rcases hv with ⟨g, n, -, e⟩ | ⟨g, n, -, e⟩ | ⟨g, -, e⟩ <;> rw [← e]; exact cLinked_ne (by omega) (by have := R.l.1; have := R.l.2.1; omega)); rw [h4]; exact R.l.2.1))) ?_⟩
  rintro _ M2 _ ⟨v2, rfl, hv2, rfl⟩
  have h4 : M1 75 2 = M 75 2 := by
    rcases hv with ⟨g, n, -, e⟩ | ⟨g, n, -, e⟩ | ⟨g, -, e⟩ <;> rw [← e]
    exact cLinked_ne (by omega) (by have := R.l.1; have := R.l.2.1; omega)
  have r1 := R.l.1
  have r2 := R.l.2.1
  refine ⟨by rw [show v = v2 by omega], ?_⟩
  rcases hv with ⟨g, n, -, e⟩ | ⟨g, n, -, e⟩ | ⟨g, -, e⟩
  · rcases hv2 with ⟨-, -, -, e2⟩ | ⟨-, n2, -⟩ | ⟨g2, -⟩
    · have m1 : ∀ c k, (c ≠ 1 ∨ k ≠ 2) → (c < 41 ∨ 48 < c) → M1 c k = M c k := fun c k h1 h2 => by rw [← e]; exact cLinked_ne h1 (by omega)
      have fr : ∀ c k, ((c ≠ 1 ∨ k ≠ 2) ∧ (c < 41 ∨ 48 < c)) → (c ≠ 75 ∨ k ≠ 2) ∧ c ≠ 77 → M2 c k = M c k := fun c k h1 h2 => by rw [← e2, mLinked_ne h2.1 h2.2]; exact m1 c k h1.1 h1.2
      have hN : RL M2 M2 := by
        have h0 : RL M1 (mLinked M a b lo hi) := by rw [← e]; exact R.l.linked g (by omega)
        refine h0.fr (fun c k h => by rw [← e2]; exact mLinked_ne (by omega) (by omega)) (fun c k h => by rw [← e2]; exact mLinked_congr h4 (m1 c k (by omega) (by omega)))
      exact ⟨R.s.fr (fun c k h => fr c k (by omega) (by omega)) (fun c k h => fr c k (by omega) (by omega)), hN, R.h.fr (fun c k h => fr c k (by omega) (by omega)) (fun c k h => fr c k (by omega) (by omega)), R.i.fr (fun c k h => fr c k (by omega) (by omega)) (fun c k h => fr c k (by omega) (by omega)), R.t.fr (fun c k h => fr c k (by omega) (by omega)) (fun c k h => fr c k (by omega) (by omega)), R.r.fr (fun c k h => fr c k (by omega) (by omega)) (fun c k h => fr c k (by omega) (by omega)), R.w.fr (fun k => fr 86 k (by omega) (by omega))⟩
    · omega
    · exact absurd g g2
  · rcases hv2 with ⟨-, n2, -⟩ | ⟨-, -, -, e2⟩ | ⟨g2, -⟩
    · omega
    · rw [← e2, ← e]; exact R
    · exact absurd g g2
  · rcases hv2 with ⟨g2, -⟩ | ⟨g2, -⟩ | ⟨-, -, e2⟩
    · exact absurd g2 g
    · exact absurd g2 g
    · rw [← e2, ← e]; exact R
