theorem RS.fr {A B A' B' : YM} (h : RS A B) (ha : ∀ c k : Int, (c = 1 ∧ (k = 1 ∨ k = 3)) ∨ (3 ≤ c ∧ c ≤ 12) → A' c k = A c k) (hb : ∀ c k : Int, c = 76 ∨ (c = 75 ∧ (k = 0 ∨ k = 4)) → B' c k = B c k) : RS A' B' := by
  have b0 := hb 75 0 (by omega)
  have b4 := hb 75 4 (by omega)
  have b6 := fun k => hb 76 k (by omega)
  unfold RS
  rw [ha 1 1 (by omega), ha 1 3 (by omega), b0, b4]
  refine ⟨h.1, h.2.1, h.2.2.1, h.2.2.2.1, fun s h0 h1 => ?_⟩
  have hs := fun k => ha (3 + s) k (by have := h.2.1; omega)
  rw [hs, hs, hs, hs, hs, b6, b6, b6, b6, b6]
  exact h.2.2.2.2 s h0 h1
theorem RL.fr {A B A' B' : YM} (h : RL A B) (ha : ∀ c k : Int, (c = 1 ∧ k = 2) ∨ (41 ≤ c ∧ c ≤ 48) → A' c k = A c k) (hb : ∀ c k : Int, c = 77 ∨ (c = 75 ∧ k = 2) → B' c k = B c k) : RL A' B' := by
  have b0 := hb 75 2 (by omega)
  have b6 := fun k => hb 77 k (by omega)
  unfold RL
  rw [ha 1 2 (by omega), b0]
  refine ⟨h.1, h.2.1, fun s h0 h1 => ?_⟩
  have hs := fun k => ha (41 + s) k (by omega)
  rw [hs, hs, hs, hs, b6, b6, b6, b6]
  exact h.2.2 s h0 h1
theorem RH.fr {A B A' B' : YM} (h : RH A B) (ha : ∀ c k : Int, 67 ≤ c ∧ c ≤ 74 → A' c k = A c k) (hb : ∀ c k : Int, 82 ≤ c ∧ c ≤ 84 → B' c k = B c k) : RH A' B' := by
  have b2 := fun k => hb 82 k (by omega)
  have b3 := fun k => hb 83 k (by omega)
  have b4 := fun k => hb 84 k (by omega)
  intro s h0 h1
  have hs := fun k => ha (67 + 2 * s) k (by omega)
  have hs2 := fun k => ha (68 + 2 * s) k (by omega)
  rw [hs, hs, b2, b3]
  obtain ⟨e1, e2, e3, e4, e5⟩ := h s h0 h1
  refine ⟨e1, e2, e3, e4, fun i i0 i1 => ?_⟩
  rw [hs2, b4]
  exact e5 i i0 i1
theorem RI.fr {A B A' B' : YM} (h : RI A B) (ha : ∀ c k : Int, (c = 0 ∧ k = 2) ∨ c = 13 ∨ (15 ≤ c ∧ c ≤ 24) → A' c k = A c k) (hb : ∀ c k : Int, c = 81 ∨ (c = 75 ∧ (k = 9 ∨ (11 ≤ k ∧ k ≤ 15))) → B' c k = B c k) : RI A' B' := by
  have b0 := fun k (g : k = 9 ∨ (11 ≤ k ∧ k ≤ 15)) => hb 75 k (by omega)
  have b6 := fun k => hb 81 k (by omega)
  have a0 := fun k => ha 13 k (by omega)
  unfold RI
  rw [ha 0 2 (by omega), b0 11 (by omega), b0 12 (by omega), b0 13 (by omega), b0 14 (by omega), b0 15 (by omega), b0 9 (by omega), a0, a0, a0, a0]
  refine ⟨h.1, h.2.1, fun hi => ?_⟩
  obtain ⟨e1, e2, e3, e4, e5, e6⟩ := h.2.2 hi
  refine ⟨e1, e2, e3, e4, e5, fun s h0 h1 => ?_⟩
  have hs := fun k => ha (15 + s) k (by omega)
  rw [hs, hs, hs, hs, hs, b6, b6, b6, b6, b6]
  exact e6 s h0 h1
theorem RT.fr {A B A' B' : YM} (h : RT A B) (ha : ∀ c k : Int, (c = 0 ∧ k = 5) ∨ (c = 1 ∧ k = 4) ∨ (49 ≤ c ∧ c ≤ 66) → A' c k = A c k) (hb : ∀ c k : Int, c = 79 ∨ c = 80 ∨ (c = 75 ∧ (k = 9 ∨ k = 10)) → B' c k = B c k) : RT A' B' := by
  have b9 := hb 75 9 (by omega)
  have b10 := hb 75 10 (by omega)
  have c9 : ∀ t, (fun k => B' 79 (200 * t + k)) = fun k => B 79 (200 * t + k) := fun t => funext fun k => hb 79 _ (by omega)
  have c0 : ∀ t, (fun k => B' 80 (4 * t + k)) = fun k => B 80 (4 * t + k) := fun t => funext fun k => hb 80 _ (by omega)
  unfold RT
  rw [ha 0 5 (by omega), ha 1 4 (by omega), b9, b10]
  refine ⟨h.1, h.2.1, h.2.2.1, h.2.2.2.1, fun t t0 t1 => ?_⟩
  rw [c9, c0]
  have h1 := h.2.1
  have a0 : A' (49 + 3 * t) 3 = A (49 + 3 * t) 3 := ha _ _ (by omega)
  have a1 : A' (50 + 3 * t) = A (50 + 3 * t) := funext fun k => ha _ _ (by omega)
  have a2 : A' (51 + 3 * t) = A (51 + 3 * t) := funext fun k => ha _ _ (by omega)
  rw [a0, a1, a2]
  exact h.2.2.2.2 t t0 t1
theorem RR.fr {A B A' B' : YM} (h : RR A B) (ha : ∀ c k : Int, (c = 27 ∧ k = 1) ∨ c = 28 → A' c k = A c k) (hb : ∀ c k : Int, c = 78 ∨ (c = 75 ∧ k = 6) → B' c k = B c k) : RR A' B' := by
  unfold RR
  rw [ha 27 1 (by omega), hb 75 6 (by omega)]
  refine ⟨h.1, h.2.1, fun k h0 h1 => ?_⟩
  rw [ha 28 k (by omega), hb 78 k (by omega)]
  exact h.2.2 k h0 h1
theorem RW.fr {B B' : YM} (h : RW B) (hb : ∀ k : Int, B' 86 k = B 86 k) : RW B' := fun k hk => (hb k).trans (h k hk)
theorem cSaid_ne {M : YM} {km o lo hi c k : Int} (h : c ≠ 1 ∨ k ≠ 1) (g : c ≠ 3 + M 1 1) : cSaid M km o lo hi c k = M c k := by
  unfold cSaid
  rw [yu_ne (by omega), yu_ne (by omega), yu_ne (by omega), yu_ne (by omega), yu_ne (by omega), yu_ne (by omega)]
theorem mSaid_ne {M : YM} {km o lo hi c k : Int} (h : c ≠ 75 ∨ k ≠ 0) (g : c ≠ 76) : mSaid M km o lo hi c k = M c k := by
  unfold mSaid
  rw [yu_ne (by omega), yu_ne (by omega), yu_ne (by omega), yu_ne (by omega), yu_ne (by omega), yu_ne (by omega)]
theorem mSaid_congr {M M' : YM} {km o lo hi c k : Int} (h0 : M' 75 0 = M 75 0) (h : M' c k = M c k) : mSaid M' km o lo hi c k = mSaid M km o lo hi c k := by
  unfold mSaid yu
  rw [h0, h]
theorem cLinked_ne {M : YM} {a b lo hi c k : Int} (h : c ≠ 1 ∨ k ≠ 2) (g : c ≠ 41 + M 1 2) : cLinked M a b lo hi c k = M c k := by
  unfold cLinked
  rw [yu_ne (by omega), yu_ne (by omega), yu_ne (by omega), yu_ne (by omega), yu_ne (by omega)]
theorem mLinked_ne {M : YM} {a b lo hi c k : Int} (h : c ≠ 75 ∨ k ≠ 2) (g : c ≠ 77) : mLinked M a b lo hi c k = M c k := by
  unfold mLinked
  rw [yu_ne (by omega), yu_ne (by omega), yu_ne (by omega), yu_ne (by omega), yu_ne (by omega)]
theorem mLinked_congr {M M' : YM} {a b lo hi c k : Int} (h0 : M' 75 2 = M 75 2) (h : M' c k = M c k) : mLinked M' a b lo hi c k = mLinked M a b lo hi c k := by
  unfold mLinked yu
  rw [h0, h]
theorem RL.linked {A B : YM} {a b lo hi : Int} (h : RL A B) (hg : lGood a b lo hi) (hn : B 75 2 < 8) : RL (cLinked A a b lo hi) (mLinked B a b lo hi) := by
  obtain ⟨h1, h2, h3⟩ := h
  have n0 : mLinked B a b lo hi 75 2 = B 75 2 + 1 := by unfold mLinked; rw [yu_at]
  have m1 : cLinked A a b lo hi 1 2 = A 1 2 + 1 := by unfold cLinked; rw [yu_at]
  unfold RL
  rw [n0, m1]
  refine ⟨by omega, by omega, fun s s0 s1 => ?_⟩
  by_cases hs : s = B 75 2
  · subst hs
    unfold cLinked mLinked
    rw [h1]
    have q0 : ∀ k v (X : YM), yu X 75 2 v 77 k = X 77 k := fun k v X => yu_ne (by omega)
    have q1 : ∀ k v (X : YM), yu X 1 2 v (41 + B 75 2) k = X (41 + B 75 2) k := fun k v X => yu_ne (by omega)
    simp only [q0, q1]
    have e0 : ∀ X : YM, yu (yu (yu (yu X 77 (4 * B 75 2) a) 77 (4 * B 75 2 + 1) b) 77 (4 * B 75 2 + 2) lo) 77 (4 * B 75 2 + 3) hi 77 (4 * B 75 2) = a := fun X => by
      rw [yu_ne (by omega), yu_ne (by omega), yu_ne (by omega), yu_at]
    have e1 : ∀ X : YM, yu (yu (yu (yu X 77 (4 * B 75 2) a) 77 (4 * B 75 2 + 1) b) 77 (4 * B 75 2 + 2) lo) 77 (4 * B 75 2 + 3) hi 77 (4 * B 75 2 + 1) = b := fun X => by
      rw [yu_ne (by omega), yu_ne (by omega), yu_at]
    have e2 : ∀ X : YM, yu (yu (yu (yu X 77 (4 * B 75 2) a) 77 (4 * B 75 2 + 1) b) 77 (4 * B 75 2 + 2) lo) 77 (4 * B 75 2 + 3) hi 77 (4 * B 75 2 + 2) = lo := fun X => by
      rw [yu_ne (by omega), yu_at]
    have e3 : ∀ X : YM, yu (yu (yu (yu X 77 (4 * B 75 2) a) 77 (4 * B 75 2 + 1) b) 77 (4 * B 75 2 + 2) lo) 77 (4 * B 75 2 + 3) hi 77 (4 * B 75 2 + 3) = hi := fun X => yu_at
    rw [e0, e1, e2, e3]
    refine ⟨⟨?_, ?_, ?_, ?_⟩, by omega, by omega, by omega⟩
    · rw [yu_ne (by omega), yu_ne (by omega), yu_ne (by omega), yu_at]
    · rw [yu_ne (by omega), yu_ne (by omega), yu_at]
    · rw [yu_ne (by omega), yu_at]
    · rw [yu_at]
  · have a1 : ∀ k, cLinked A a b lo hi (41 + s) k = A (41 + s) k := fun k => cLinked_ne (by omega) (by omega)
    have b1 : ∀ j, 0 ≤ j → j ≤ 3 → mLinked B a b lo hi 77 (4 * s + j) = B 77 (4 * s + j) := fun j j0 j1 => by
      unfold mLinked
      rw [yu_ne (by omega), yu_ne (by omega), yu_ne (by omega), yu_ne (by omega), yu_ne (by omega)]
    have b0 : mLinked B a b lo hi 77 (4 * s) = B 77 (4 * s) := by
      have := b1 0 (by omega) (by omega)
      rwa [Int.add_zero] at this
    rw [a1, a1, a1, a1, b0, b1 1 (by omega) (by omega), b1 2 (by omega) (by omega), b1 3 (by omega) (by omega)]
    exact h3 s s0 s1
theorem hCut_in {t v : Int} (h : -2147483648 ≤ v ∧ v < 2147483648) : -2147483648 ≤ hCut t v ∧ hCut t v < 2147483648 := by
  unfold hCut
  split
  · have h1 := Int8.le_toInt (Int32.ofInt v).toInt8
    have h2 := Int8.toInt_lt (Int32.ofInt v).toInt8
    omega
  · split
    · have h1 := Int16.le_toInt (Int32.ofInt v).toInt16
      have h2 := Int16.toInt_lt (Int32.ofInt v).toInt16
      omega
    · exact h
theorem yfill_ne {M : YM} {b lo hi x c k : Int} (h : c ≠ b ∨ k < lo ∨ hi ≤ k) : yfill M b lo hi x c k = M c k := by
  unfold yfill
  rw [if_neg (by omega)]
theorem yfill_at {M : YM} {b lo hi x k : Int} (h : lo ≤ k ∧ k < hi) : yfill M b lo hi x b k = x := by
  unfold yfill
  rw [if_pos ⟨rfl, h⟩]
theorem ycopy_ne {M : YM} {a b sp dp n c k : Int} (h : c ≠ a ∨ k < dp ∨ dp + n ≤ k) : ycopy M a b sp dp n c k = M c k := by
  unfold ycopy
  rw [if_neg (by omega)]
theorem ycopy_at {M : YM} {a b sp dp n k : Int} (h : dp ≤ k ∧ k < dp + n) : ycopy M a b sp dp n a k = M b (sp + (k - dp)) := by
  unfold ycopy
  rw [if_pos ⟨rfl, h⟩]
