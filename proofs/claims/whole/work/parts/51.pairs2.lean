theorem RH.one {M M2 : YM} (h : RH M M) {s : Int} (hs : 0 ≤ s ∧ s < 4) (fr : ∀ c k, c ≠ 67 + 2 * s → c ≠ 68 + 2 * s → (c ≠ 82 ∧ c ≠ 83) ∨ k ≠ s → c ≠ 84 ∨ k < 40 * s ∨ 40 * s + 40 ≤ k → M2 c k = M c k)
    (n : M2 (67 + 2 * s) 1 = M2 82 s ∧ M2 (67 + 2 * s) 2 = M2 83 s ∧ (-1 ≤ M2 82 s ∧ M2 82 s ≤ 2) ∧ (0 ≤ M2 83 s ∧ M2 83 s ≤ 40) ∧ ∀ i : Int, 0 ≤ i → i < 40 → M2 (68 + 2 * s) i = M2 84 (40 * s + i) ∧ (-2147483648 ≤ M2 84 (40 * s + i) ∧ M2 84 (40 * s + i) < 2147483648)) : RH M2 M2 := by
  intro q q0 q1
  by_cases hq : q = s
  · rw [hq]; exact n
  · rw [fr (67 + 2 * q) 1 (by omega) (by omega) (by omega) (by omega), fr (67 + 2 * q) 2 (by omega) (by omega) (by omega) (by omega), fr 82 q (by omega) (by omega) (by omega) (by omega), fr 83 q (by omega) (by omega) (by omega) (by omega)]
    obtain ⟨e1, e2, e3, e4, e5⟩ := h q q0 q1
    refine ⟨e1, e2, e3, e4, fun i i0 i1 => ?_⟩
    rw [fr (68 + 2 * q) i (by omega) (by omega) (by omega) (by omega), fr 84 (40 * q + i) (by omega) (by omega) (by omega) (by omega)]
    exact e5 i i0 i1
theorem p_sheet {S : XS} {M N : YM} {s t n : Int} (hs : -2147483648 ≤ s ∧ s < 2147483648) (ht : -2147483648 ≤ t ∧ t < 2147483648) (hn : -2147483648 ≤ n ∧ n < 2147483648) (R : Rel M) : pri S 85 186 [yi s, yi t, yi n] M N := by
  refine rm_post (rm_deep (Nat.le_of_ble_eq_true rfl) (c_sheet hs ht hn)) ?_
  rintro _ M1 _ ⟨v, rfl, ⟨hv, e⟩, rfl⟩
  refine ⟨v, rfl, rm_post (rm_deep (Nat.le_of_ble_eq_true rfl) (m_sheet hs ht hn)) ?_⟩
  rintro _ M2 _ ⟨v2, rfl, ⟨hv2, e2⟩, rfl⟩
  have hvv : v = v2 := by rw [hv, hv2]
  refine ⟨by rw [hvv], ?_⟩
  by_cases h1 : v = 1
  · rw [if_pos h1] at e
    rw [if_pos (by omega)] at e2
    have hs0 : 0 ≤ s ∧ s < 4 := by
      rw [h1] at hv
      (repeat' split at hv) <;> omega
    have hz : (-1 ≤ t ∧ t ≤ 2) ∧ 0 ≤ (if t = -1 then 0 else n) ∧ (if t = -1 then 0 else n) ≤ 40 := by
      rw [h1] at hv
      (repeat' split at hv) <;> omega
    generalize hzz : (if t = -1 then 0 else n) = z at *
    have fr : ∀ c k, c ≠ 67 + 2 * s → c ≠ 68 + 2 * s → (c ≠ 82 ∧ c ≠ 83) ∨ k ≠ s → c ≠ 84 ∨ k < 40 * s ∨ 40 * s + 40 ≤ k → M2 c k = M c k := fun c k g1 g2 g3 g4 => by
      rw [← e2, ← e, yfill_ne (by omega), yu_ne (by omega), yu_ne (by omega), yfill_ne (by omega), yu_ne (by omega), yu_ne (by omega)]
    have n1 : M2 (67 + 2 * s) 1 = t := by
      rw [← e2, ← e, yfill_ne (by omega), yu_ne (by omega), yu_ne (by omega), yfill_ne (by omega), yu_ne (by omega), yu_at]
    have n2 : M2 (67 + 2 * s) 2 = z := by
      rw [← e2, ← e, yfill_ne (by omega), yu_ne (by omega), yu_ne (by omega), yfill_ne (by omega), yu_at]
    have n3 : M2 82 s = t := by rw [← e2, yfill_ne (by omega), yu_ne (by omega), yu_at]
    have n4 : M2 83 s = z := by rw [← e2, yfill_ne (by omega), yu_at]
    have hN : RH M2 M2 := R.h.one hs0 fr ⟨by rw [n1, n3], by rw [n2, n4], by rw [n3]; exact hz.1, by rw [n4]; exact hz.2, fun i i0 i1 => by
      have a : M2 (68 + 2 * s) i = 0 := by
        rw [← e2, ← e, yfill_ne (by omega), yu_ne (by omega), yu_ne (by omega), yfill_at (by omega)]
      have b : M2 84 (40 * s + i) = 0 := by rw [← e2, yfill_at (by omega)]
      rw [a, b]
      exact ⟨rfl, by decide, by decide⟩⟩
    exact ⟨R.s.fr (fun c k h => fr c k (by omega) (by omega) (by omega) (by omega)) (fun c k h => fr c k (by omega) (by omega) (by omega) (by omega)), R.l.fr (fun c k h => fr c k (by omega) (by omega) (by omega) (by omega)) (fun c k h => fr c k (by omega) (by omega) (by omega) (by omega)), hN, R.i.fr (fun c k h => fr c k (by omega) (by omega) (by omega) (by omega)) (fun c k h => fr c k (by omega) (by omega) (by omega) (by omega)), R.t.fr (fun c k h => fr c k (by omega) (by omega) (by omega) (by omega)) (fun c k h => fr c k (by omega) (by omega) (by omega) (by omega)), R.r.fr (fun c k h => fr c k (by omega) (by omega) (by omega) (by omega)) (fun c k h => fr c k (by omega) (by omega) (by omega) (by omega)), R.w.fr (fun k => fr 86 k (by omega) (by omega) (by omega) (by omega))⟩
  · rw [if_neg h1] at e
    rw [if_neg (by omega)] at e2
    rw [← e2, ← e]
    exact R
theorem RH.mid {M M1 : YM} (h : RH M M) (a : ∀ s : Int, 0 ≤ s → s < 4 → M1 (67 + 2 * s) 1 = M (67 + 2 * s) 1 ∧ M1 (67 + 2 * s) 2 = M (67 + 2 * s) 2) (b : ∀ c k, 75 ≤ c → M1 c k = M c k) (c : ∀ s : Int, 0 ≤ s → s < 4 → ∀ i : Int, 0 ≤ i → i < 40 → M1 (68 + 2 * s) i = M1 84 (40 * s + i)) : RH M1 M1 := by
  intro s h0 h1
  obtain ⟨e1, e2, e3, e4, e5⟩ := h s h0 h1
  rw [(a s h0 h1).1, (a s h0 h1).2, b 82 s (by omega), b 83 s (by omega)]
  refine ⟨e1, e2, e3, e4, fun i i0 i1 => ⟨c s h0 h1 i i0 i1, ?_⟩⟩
  rw [b 84 _ (by omega)]
  exact (e5 i i0 i1).2
theorem p_cell {S : XS} {M N : YM} {s i w : Int} (hs : -2147483648 ≤ s ∧ s < 2147483648) (hi : -2147483648 ≤ i ∧ i < 2147483648) (hw : -2147483648 ≤ w ∧ w < 2147483648) (R : Rel M) : pri S 86 187 [yi s, yi i, yi w] M N := by
  refine rm_post (rm_deep (Nat.le_of_ble_eq_true rfl) (c_cell R.h.inv hs hi hw)) ?_
  rintro _ M1 _ ⟨v, rfl, ⟨hv, e⟩, rfl⟩
  have hm : ∀ c k, 75 ≤ c → M1 c k = M c k := fun c k g => by
    rw [← e]
    split
    · rename_i h1
      have hs0 : 0 ≤ s ∧ s < 4 := by
        rw [h1] at hv
        (repeat' split at hv) <;> omega
      exact yu_ne (by omega)
    · rfl
  refine ⟨v, rfl, rm_post (rm_deep (Nat.le_of_ble_eq_true rfl) (m_cell (fun q q0 q1 => by rw [hm 82 q (by omega), hm 83 q (by omega)]; have := R.h q q0 q1; exact ⟨this.2.2.1, this.2.2.2.1⟩) hs hi hw)) ?_⟩
  rintro _ M2 _ ⟨v2, rfl, ⟨hv2, e2⟩, rfl⟩
  have hvv : v = v2 := by
    rw [hv, hv2]
    simp only [hm 82 _ (show (75 : Int) ≤ 82 by decide), hm 83 _ (show (75 : Int) ≤ 83 by decide)]
  refine ⟨by rw [hvv], ?_⟩
  by_cases h1 : v = 1
  · rw [if_pos h1] at e
    rw [if_pos (by omega)] at e2
    rw [h1] at hv
    have hs0 : 0 ≤ s ∧ s < 4 := by
      (repeat' split at hv) <;> omega
    obtain ⟨q1, q2, q3, q4, q5⟩ := R.h s hs0.1 hs0.2
    have hi0 : 0 ≤ i ∧ i < 40 := by
      (repeat' split at hv) <;> omega
    have fr : ∀ c k, c ≠ 67 + 2 * s → c ≠ 68 + 2 * s → (c ≠ 82 ∧ c ≠ 83) ∨ k ≠ s → c ≠ 84 ∨ k < 40 * s ∨ 40 * s + 40 ≤ k → M2 c k = M c k := fun c k g1 g2 g3 g4 => by
      rw [← e2, ← e, yu_ne (by omega), yu_ne (by omega)]
    have f1 : ∀ k, M2 (67 + 2 * s) k = M (67 + 2 * s) k := fun k => by rw [← e2, ← e, yu_ne (by omega), yu_ne (by omega)]
    have f2 : M2 82 s = M 82 s := by rw [← e2, yu_ne (by omega), hm 82 s (by omega)]
    have f3 : M2 83 s = M 83 s := by rw [← e2, yu_ne (by omega), hm 83 s (by omega)]
    have hN : RH M2 M2 := R.h.one hs0 fr ⟨by rw [f1, f2]; exact q1, by rw [f1, f3]; exact q2, by rw [f2]; exact q3, by rw [f3]; exact q4, fun x x0 x1 => by
      by_cases hx : x = i
      · subst hx
        have a : M2 (68 + 2 * s) x = hCut (M 82 s) w := by rw [← e2, ← e, yu_ne (by omega), yu_at, q1]
        have b : M2 84 (40 * s + x) = hCut (M 82 s) w := by rw [← e2, yu_at, hm 82 s (by omega)]
        rw [a, b]
        exact ⟨rfl, hCut_in hw⟩
      · have a : M2 (68 + 2 * s) x = M (68 + 2 * s) x := by rw [← e2, ← e, yu_ne (by omega), yu_ne (by omega)]
        have b : M2 84 (40 * s + x) = M 84 (40 * s + x) := by rw [← e2, yu_ne (by omega), hm 84 _ (by omega)]
        rw [a, b]
        exact q5 x x0 x1⟩
    exact ⟨R.s.fr (fun c k h => fr c k (by omega) (by omega) (by omega) (by omega)) (fun c k h => fr c k (by omega) (by omega) (by omega) (by omega)), R.l.fr (fun c k h => fr c k (by omega) (by omega) (by omega) (by omega)) (fun c k h => fr c k (by omega) (by omega) (by omega) (by omega)), hN, R.i.fr (fun c k h => fr c k (by omega) (by omega) (by omega) (by omega)) (fun c k h => fr c k (by omega) (by omega) (by omega) (by omega)), R.t.fr (fun c k h => fr c k (by omega) (by omega) (by omega) (by omega)) (fun c k h => fr c k (by omega) (by omega) (by omega) (by omega)), R.r.fr (fun c k h => fr c k (by omega) (by omega) (by omega) (by omega)) (fun c k h => fr c k (by omega) (by omega) (by omega) (by omega)), R.w.fr (fun k => fr 86 k (by omega) (by omega) (by omega) (by omega))⟩
  · rw [if_neg h1] at e
    rw [if_neg (by omega)] at e2
    rw [← e2, ← e]
    exact R
theorem p_copy {S : XS} {M N : YM} {s i o j n : Int} (hs : -2147483648 ≤ s ∧ s < 2147483648) (hi : -2147483648 ≤ i ∧ i < 2147483648) (ho : -2147483648 ≤ o ∧ o < 2147483648) (hj : -2147483648 ≤ j ∧ j < 2147483648) (hn : -2147483648 ≤ n ∧ n < 2147483648) (R : Rel M) : pri S 87 188 [yi s, yi i, yi o, yi j, yi n] M N := by
  refine rm_post (rm_deep (Nat.le_of_ble_eq_true rfl) (c_copy R.h.inv hs hi ho hj hn)) ?_
  rintro _ M1 _ ⟨v, rfl, ⟨hv, e⟩, rfl⟩
  have hm : ∀ c k, 75 ≤ c → M1 c k = M c k := fun c k g => by
    rw [← e]
    split
    · rename_i h1
      have ho0 : 0 ≤ o ∧ o < 4 := by
        (repeat' split at hv) <;> omega
      exact ycopy_ne (by omega)
    · rfl
  refine ⟨v, rfl, rm_post (rm_deep (Nat.le_of_ble_eq_true rfl) (m_copy (fun q q0 q1 => by rw [hm 82 q (by omega), hm 83 q (by omega)]; have := R.h q q0 q1; exact ⟨this.2.2.1, this.2.2.2.1⟩) hs hi ho hj hn)) ?_⟩
  rintro _ M2 _ ⟨v2, rfl, ⟨hv2, e2⟩, rfl⟩
  have hvv : v = v2 := by
    rw [hv, hv2]
    simp only [hm 82 _ (show (75 : Int) ≤ 82 by decide), hm 83 _ (show (75 : Int) ≤ 83 by decide)]
  refine ⟨by rw [hvv], ?_⟩
  by_cases h1 : 0 ≤ v
  · rw [if_pos h1] at e
    rw [if_pos (by omega)] at e2
    have hg : (0 ≤ s ∧ s < 4) ∧ (0 ≤ o ∧ o < 4) ∧ (0 ≤ n ∧ 0 ≤ i ∧ n ≤ M 83 s ∧ i ≤ M 83 s - n ∧ n ≤ M 83 o ∧ 0 ≤ j ∧ j ≤ M 83 o - n) := by
      (repeat' split at hv) <;> omega
    obtain ⟨hs0, ho0, hr⟩ := hg
    obtain ⟨q1, q2, q3, q4, q5⟩ := R.h o ho0.1 ho0.2
    obtain ⟨p1, p2, p3, p4, p5⟩ := R.h s hs0.1 hs0.2
    have fr : ∀ c k, c ≠ 67 + 2 * o → c ≠ 68 + 2 * o → (c ≠ 82 ∧ c ≠ 83) ∨ k ≠ o → c ≠ 84 ∨ k < 40 * o ∨ 40 * o + 40 ≤ k → M2 c k = M c k := fun c k g1 g2 g3 g4 => by
      rw [← e2, ← e, ycopy_ne (by omega), ycopy_ne (by omega)]
    have f1 : ∀ k, M2 (67 + 2 * o) k = M (67 + 2 * o) k := fun k => by rw [← e2, ← e, ycopy_ne (by omega), ycopy_ne (by omega)]
    have f2 : M2 82 o = M 82 o := by rw [← e2, ycopy_ne (by omega), hm 82 o (by omega)]
    have f3 : M2 83 o = M 83 o := by rw [← e2, ycopy_ne (by omega), hm 83 o (by omega)]
    have hN : RH M2 M2 := R.h.one ho0 fr ⟨by rw [f1, f2]; exact q1, by rw [f1, f3]; exact q2, by rw [f2]; exact q3, by rw [f3]; exact q4, fun x x0 x1 => by
      by_cases hx : j ≤ x ∧ x < j + n
      · have a : M2 (68 + 2 * o) x = M (68 + 2 * s) (i + (x - j)) := by rw [← e2, ← e, ycopy_ne (by omega), ycopy_at (by omega)]
        have b : M2 84 (40 * o + x) = M 84 (40 * s + (i + (x - j))) := by rw [← e2, ycopy_at (by omega), hm 84 _ (by omega), show 40 * s + i + (40 * o + x - (40 * o + j)) = 40 * s + (i + (x - j)) by omega]
        rw [a, b]
        exact p5 _ (by omega) (by omega)
      · have a : M2 (68 + 2 * o) x = M (68 + 2 * o) x := by rw [← e2, ← e, ycopy_ne (by omega), ycopy_ne (by omega)]
        have b : M2 84 (40 * o + x) = M 84 (40 * o + x) := by rw [← e2, ycopy_ne (by omega), hm 84 _ (by omega)]
        rw [a, b]
        exact q5 x x0 x1⟩
    exact ⟨R.s.fr (fun c k h => fr c k (by omega) (by omega) (by omega) (by omega)) (fun c k h => fr c k (by omega) (by omega) (by omega) (by omega)), R.l.fr (fun c k h => fr c k (by omega) (by omega) (by omega) (by omega)) (fun c k h => fr c k (by omega) (by omega) (by omega) (by omega)), hN, R.i.fr (fun c k h => fr c k (by omega) (by omega) (by omega) (by omega)) (fun c k h => fr c k (by omega) (by omega) (by omega) (by omega)), R.t.fr (fun c k h => fr c k (by omega) (by omega) (by omega) (by omega)) (fun c k h => fr c k (by omega) (by omega) (by omega) (by omega)), R.r.fr (fun c k h => fr c k (by omega) (by omega) (by omega) (by omega)) (fun c k h => fr c k (by omega) (by omega) (by omega) (by omega)), R.w.fr (fun k => fr 86 k (by omega) (by omega) (by omega) (by omega))⟩
  · rw [if_neg h1] at e
    rw [if_neg (by omega)] at e2
    rw [← e2, ← e]
    exact R
theorem mByAll_congr {s t p n : Int} {B B' : YM} (h : ∀ c k : Int, 75 ≤ c → B' c k = B c k) : (mByAll s t p n B').2 = (mByAll s t p n B).2 ∧ eqt (mByAll s t p n B).1 (mByAll s t p n B').1 := by
  have g : eqt B B' := ⟨fun k => h 76 k (by decide), fun k _ => h 75 k (by decide)⟩
  have e : (fun k => B' 84 (40 * s + k)) = fun k => B 84 (40 * s + k) := funext fun k => h 84 _ (by decide)
  unfold mByAll
  rw [h 82 s (by decide), h 83 s (by decide), e]
  split
  · exact ⟨rfl, g⟩
  · split
    · exact ⟨rfl, g⟩
    · split
      · exact ⟨rfl, g⟩
      · exact mBy_congr g
theorem mByAll_eqp {s t p n : Int} {B : YM} : eqp B (mByAll s t p n B).1 := by
  unfold mByAll
  split
  · exact eqp.refl
  · split
    · exact eqp.refl
    · split
      · exact eqp.refl
      · exact mBy_eqp
theorem p_sayingsBy {S : XS} {M N : YM} {s t p n : Int} (hs : -2147483648 ≤ s ∧ s < 2147483648) (ht : -2147483648 ≤ t ∧ t < 2147483648) (hp : -2147483648 ≤ p ∧ p < 2147483648) (hn : -2147483648 ≤ n ∧ n < 2147483648) (R : Rel M) : pri S 88 189 [yi s, yi t, yi p, yi n] M N := by
  refine rm_post (rm_deep (Nat.le_of_ble_eq_true rfl) (c_sayingsBy hs ht hp hn R.s R.h)) ?_
  rintro _ M1 _ ⟨v, rfl, hv, hS, ho, rfl⟩
  have hm : ∀ c k : Int, 75 ≤ c → M1 c k = M c k := fun c k g => ho c k (by omega) (by omega)
  refine ⟨v, rfl, rm_post (rm_deep (Nat.le_of_ble_eq_true rfl) (m_sayingsBy hs ht hp hn (by rw [hm 75 0 (by decide)]; exact R.s.2.1) (R.h.fr (fun c k h => ho c k (by omega) (by omega)) (fun c k h => hm c k (by omega))))) ?_⟩
  rintro _ M2 _ ⟨v2, rfl, hv2, e2, rfl⟩
  obtain ⟨c1, c2⟩ := mByAll_congr (s := s) (t := t) (p := p) (n := n) hm
  refine ⟨by rw [hv, hv2, c1], ?_⟩
  have b1 : eqp M1 M2 := by rw [← e2]; exact mByAll_eqp
  have fr : ∀ c k, (c ≠ 1 ∨ k ≠ 1) ∧ (c < 3 ∨ 12 < c) → c ≠ 76 ∧ (c ≠ 75 ∨ k ≠ 0) → M2 c k = M c k := fun c k h1 h2 => by
    rw [b1 c k h2.1 h2.2, ho c k h1.1 h1.2]
  have hN : RS M2 M2 := hS.fr (fun c k h => b1 c k (by omega) (by omega)) (fun c k h => by
    rw [← e2]
    rcases h with rfl | ⟨rfl, h⟩
    · exact c2.1 k
    · exact c2.2 k (by omega))
  exact ⟨hN, R.l.fr (fun c k h => fr c k (by omega) (by omega)) (fun c k h => fr c k (by omega) (by omega)), R.h.fr (fun c k h => fr c k (by omega) (by omega)) (fun c k h => fr c k (by omega) (by omega)), R.i.fr (fun c k h => fr c k (by omega) (by omega)) (fun c k h => fr c k (by omega) (by omega)), R.t.fr (fun c k h => fr c k (by omega) (by omega)) (fun c k h => fr c k (by omega) (by omega)), R.r.fr (fun c k h => fr c k (by omega) (by omega)) (fun c k h => fr c k (by omega) (by omega)), R.w.fr (fun k => fr 86 k (by omega) (by omega))⟩
