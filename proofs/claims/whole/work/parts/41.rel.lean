/-! what class (cells of A) and reference (cells of B) have in common -/
/-- places that no call reads before it writes them -/
def sc (c k : Int) : Prop := (33 ≤ c ∧ c ≤ 40) ∨ (29 ≤ c ∧ c ≤ 31) ∨ (c = 0 ∧ 11 ≤ k) ∨ (c = 27 ∧ 2 ≤ k) ∨ 87 ≤ c ∨ (c = 75 ∧ 21 ≤ k)
def eqn (A B : YM) : Prop := ∀ c k : Int, ¬ sc c k → B c k = A c k
def eqc (A B : YM) : Prop := ∀ c k : Int, c < 75 → ¬ sc c k → B c k = A c k
def eqm (A B : YM) : Prop := ∀ c k : Int, 75 ≤ c → ¬ sc c k → B c k = A c k
theorem eqn.c {A B : YM} (h : eqn A B) : eqc A B := fun c k _ h2 => h c k h2
theorem eqn.m {A B : YM} (h : eqn A B) : eqm A B := fun c k _ h2 => h c k h2
theorem eqn.refl {A : YM} : eqn A A := fun _ _ _ => rfl
theorem eqn.trans {A B C : YM} (h : eqn A B) (g : eqn B C) : eqn A C := fun c k n => (g c k n).trans (h c k n)
theorem eqc.refl {A : YM} : eqc A A := fun _ _ _ _ => rfl
theorem eqm.refl {A : YM} : eqm A A := fun _ _ _ _ => rfl
theorem eqn.yu {A B : YM} {c k v : Int} (h : eqn A B) (hs : sc c k) : eqn A (yu B c k v) := fun c' k' n => by
  have e : ¬ (c' = c ∧ k' = k) := fun g => n (by rw [g.1, g.2]; exact hs)
  show (if c' = c ∧ k' = k then v else B c' k') = _
  rw [if_neg e]
  exact h c' k' n
def RS (A B : YM) : Prop := A 1 1 = B 75 0 ∧ (0 ≤ B 75 0 ∧ B 75 0 ≤ 10) ∧ A 1 3 = B 75 4 ∧ (0 ≤ B 75 4 ∧ B 75 4 ≤ 99) ∧
  ∀ s : Int, 0 ≤ s → s < B 75 0 → (A (3 + s) 0 = B 76 (5 * s) ∧ A (3 + s) 1 = B 76 (5 * s + 4) ∧ A (3 + s) 2 = B 76 (5 * s + 1) ∧ A (3 + s) 3 = B 76 (5 * s + 2) ∧ A (3 + s) 4 = B 76 (5 * s + 3)) ∧ sOk (B 76 (5 * s)) (B 76 (5 * s + 4)) (B 76 (5 * s + 2)) (B 76 (5 * s + 3)) ∧ 0 ≤ B 76 (5 * s + 1) ∧ B 76 (5 * s + 1) ≤ 5
def RL (A B : YM) : Prop := A 1 2 = B 75 2 ∧ (0 ≤ B 75 2 ∧ B 75 2 ≤ 8) ∧
  ∀ k : Int, 0 ≤ k → k < 8 → (A (41 + k) 0 = B 77 (4 * k) ∧ A (41 + k) 1 = B 77 (4 * k + 1) ∧ A (41 + k) 2 = B 77 (4 * k + 2) ∧ A (41 + k) 3 = B 77 (4 * k + 3)) ∧ (0 ≤ B 77 (4 * k) ∧ B 77 (4 * k) ≤ 5) ∧ (0 ≤ B 77 (4 * k + 1) ∧ B 77 (4 * k + 1) ≤ 5) ∧ (-999 ≤ B 77 (4 * k + 2) ∧ B 77 (4 * k + 2) ≤ B 77 (4 * k + 3) ∧ B 77 (4 * k + 3) ≤ 999)
def RH (A B : YM) : Prop := ∀ s : Int, 0 ≤ s → s < 4 → A (67 + 2 * s) 1 = B 82 s ∧ A (67 + 2 * s) 2 = B 83 s ∧ (-1 ≤ B 82 s ∧ B 82 s ≤ 2) ∧ (0 ≤ B 83 s ∧ B 83 s ≤ 40) ∧
  ∀ i : Int, 0 ≤ i → i < 40 → A (68 + 2 * s) i = B 84 (40 * s + i) ∧ (-2147483648 ≤ B 84 (40 * s + i) ∧ B 84 (40 * s + i) < 2147483648)
def RI (A B : YM) : Prop := A 0 2 = B 75 11 ∧ (B 75 11 = 0 ∨ B 75 11 = 1) ∧ (B 75 11 = 1 → (A 13 1 = B 75 12 ∧ A 13 2 = B 75 13 ∧ A 13 3 = B 75 14 ∧ A 13 4 = B 75 15) ∧ (0 ≤ B 75 12 ∧ B 75 12 ≤ 10) ∧ (0 ≤ B 75 13 ∧ B 75 13 ≤ 8) ∧ (0 ≤ B 75 14 ∧ B 75 14 ≤ 99) ∧ (0 ≤ B 75 15 ∧ B 75 15 < B 75 9) ∧
  ∀ s : Int, 0 ≤ s → s < B 75 12 → (A (15 + s) 0 = B 81 (5 * s) ∧ A (15 + s) 1 = B 81 (5 * s + 4) ∧ A (15 + s) 2 = B 81 (5 * s + 1) ∧ A (15 + s) 3 = B 81 (5 * s + 2) ∧ A (15 + s) 4 = B 81 (5 * s + 3)) ∧ sOk (B 81 (5 * s)) (B 81 (5 * s + 4)) (B 81 (5 * s + 2)) (B 81 (5 * s + 3)) ∧ 0 ≤ B 81 (5 * s + 1) ∧ B 81 (5 * s + 1) ≤ 5)
def RR (A B : YM) : Prop := A 27 1 = B 75 6 ∧ (0 ≤ B 75 6 ∧ B 75 6 ≤ 160) ∧ ∀ k : Int, 0 ≤ k → k < B 75 6 → A 28 k = B 78 k ∧ 0 ≤ B 78 k ∧ B 78 k ≤ 255
theorem RS.congr {A B A' B' : YM} (h : RS A B) (ha : eqc A A') (hb : eqm B B') : RS A' B' := by
  have b0 := hb 75 0 (by omega) (by unfold sc; omega)
  have b4 := hb 75 4 (by omega) (by unfold sc; omega)
  have b6 := fun k => hb 76 k (by omega) (by unfold sc; omega)
  unfold RS
  rw [ha 1 1 (by omega) (by unfold sc; omega), ha 1 3 (by omega) (by unfold sc; omega), b0, b4]
  refine ⟨h.1, h.2.1, h.2.2.1, h.2.2.2.1, fun s h0 h1 => ?_⟩
  have hs := fun k => ha (3 + s) k (by have := h.2.1; omega) (by have := h.2.1; unfold sc; omega)
  rw [hs, hs, hs, hs, hs, b6, b6, b6, b6, b6]
  exact h.2.2.2.2 s h0 h1
theorem RL.congr {A B A' B' : YM} (h : RL A B) (ha : eqc A A') (hb : eqm B B') : RL A' B' := by
  have b0 := hb 75 2 (by omega) (by unfold sc; omega)
  have b6 := fun k => hb 77 k (by omega) (by unfold sc; omega)
  unfold RL
  rw [ha 1 2 (by omega) (by unfold sc; omega), b0]
  refine ⟨h.1, h.2.1, fun s h0 h1 => ?_⟩
  have hs := fun k => ha (41 + s) k (by omega) (by unfold sc; omega)
  rw [hs, hs, hs, hs, b6, b6, b6, b6]
  exact h.2.2 s h0 h1
theorem RH.congr {A B A' B' : YM} (h : RH A B) (ha : eqc A A') (hb : eqm B B') : RH A' B' := by
  have b2 := fun k => hb 82 k (by omega) (by unfold sc; omega)
  have b3 := fun k => hb 83 k (by omega) (by unfold sc; omega)
  have b4 := fun k => hb 84 k (by omega) (by unfold sc; omega)
  intro s h0 h1
  have hs := fun k => ha (67 + 2 * s) k (by omega) (by unfold sc; omega)
  have hs2 := fun k => ha (68 + 2 * s) k (by omega) (by unfold sc; omega)
  rw [hs, hs, b2, b3]
  obtain ⟨e1, e2, e3, e4, e5⟩ := h s h0 h1
  refine ⟨e1, e2, e3, e4, fun i i0 i1 => ?_⟩
  rw [hs2, b4]
  exact e5 i i0 i1
theorem RI.congr {A B A' B' : YM} (h : RI A B) (ha : eqc A A') (hb : eqm B B') : RI A' B' := by
  have b0 := fun k (g : k < 21) => hb 75 k (by omega) (by unfold sc; omega)
  have b6 := fun k => hb 81 k (by omega) (by unfold sc; omega)
  have a0 := fun k => ha 13 k (by omega) (by unfold sc; omega)
  unfold RI
  rw [ha 0 2 (by omega) (by unfold sc; omega), b0 11 (by omega), b0 12 (by omega), b0 13 (by omega), b0 14 (by omega), b0 15 (by omega), b0 9 (by omega), a0, a0, a0, a0]
  refine ⟨h.1, h.2.1, fun hi => ?_⟩
  obtain ⟨e1, e2, e3, e4, e5, e6⟩ := h.2.2 hi
  refine ⟨e1, e2, e3, e4, e5, fun s h0 h1 => ?_⟩
  have hs := fun k => ha (15 + s) k (by omega) (by unfold sc; omega)
  rw [hs, hs, hs, hs, hs, b6, b6, b6, b6, b6]
  exact e6 s h0 h1
theorem RR.congr {A B A' B' : YM} (h : RR A B) (ha : eqc A A') (hb : eqm B B') : RR A' B' := by
  unfold RR
  rw [ha 27 1 (by omega) (by unfold sc; omega), hb 75 6 (by omega) (by unfold sc; omega)]
  refine ⟨h.1, h.2.1, fun k h0 h1 => ?_⟩
  rw [ha 28 k (by omega) (by unfold sc; omega), hb 78 k (by omega) (by unfold sc; omega)]
  exact h.2.2 k h0 h1
theorem InvS.rs {M : YM} (h : InvS M) : RS M M := h
theorem RS.inv {M : YM} (h : RS M M) : InvS M := h
theorem InvL.rl {M : YM} (h : InvL M) : RL M M := h
theorem RL.inv {M : YM} (h : RL M M) : InvL M := h
theorem InvH.rh {M : YM} (h : InvH M) : RH M M := h
theorem RH.inv {M : YM} (h : RH M M) : InvH M := h
/-- a saying more -/
theorem RS.said {A B : YM} {km o lo hi : Int} (h : RS A B) (hg : sGood km o lo hi) (hn : B 75 0 < 10) : RS (cSaid A km o lo hi) (mSaid B km o lo hi) := by
  obtain ⟨h1, h2, h3, h4, h5⟩ := h
  have n0 : mSaid B km o lo hi 75 0 = B 75 0 + 1 := by unfold mSaid; rw [yu_at]
  have n4 : mSaid B km o lo hi 75 4 = B 75 4 := by
    unfold mSaid
    rw [yu_ne (by omega), yu_ne (by omega), yu_ne (by omega), yu_ne (by omega), yu_ne (by omega), yu_ne (by omega)]
  have m1 : cSaid A km o lo hi 1 1 = A 1 1 + 1 := by unfold cSaid; rw [yu_at]
  have m3 : cSaid A km o lo hi 1 3 = A 1 3 := by
    unfold cSaid
    rw [yu_ne (by omega), yu_ne (by omega), yu_ne (by omega), yu_ne (by omega), yu_ne (by omega), yu_ne (by omega)]
  unfold RS
  rw [n0, n4, m1, m3]
  refine ⟨by omega, by omega, h3, h4, fun s s0 s1 => ?_⟩
  by_cases hs : s = B 75 0
  · subst hs
    unfold cSaid mSaid
    rw [h1]
    have q0 : ∀ k v, yu (yu (yu (yu (yu (yu B 76 (5 * B 75 0) (km / 10)) 76 (5 * B 75 0 + 1) o) 76 (5 * B 75 0 + 2) lo) 76 (5 * B 75 0 + 3) hi) 76 (5 * B 75 0 + 4) (km % 10)) 75 0 v 76 k = yu (yu (yu (yu (yu B 76 (5 * B 75 0) (km / 10)) 76 (5 * B 75 0 + 1) o) 76 (5 * B 75 0 + 2) lo) 76 (5 * B 75 0 + 3) hi) 76 (5 * B 75 0 + 4) (km % 10) 76 k := fun k v => yu_ne (by omega)
    have q1 : ∀ k v, yu (yu (yu (yu (yu (yu A (3 + B 75 0) 0 (km / 10)) (3 + B 75 0) 1 (km % 10)) (3 + B 75 0) 2 o) (3 + B 75 0) 3 lo) (3 + B 75 0) 4 hi) 1 1 v (3 + B 75 0) k = yu (yu (yu (yu (yu A (3 + B 75 0) 0 (km / 10)) (3 + B 75 0) 1 (km % 10)) (3 + B 75 0) 2 o) (3 + B 75 0) 3 lo) (3 + B 75 0) 4 hi (3 + B 75 0) k := fun k v => yu_ne (by omega)
    simp only [q0, q1]
    have e0 : ∀ X : YM, yu (yu (yu (yu (yu X 76 (5 * B 75 0) (km / 10)) 76 (5 * B 75 0 + 1) o) 76 (5 * B 75 0 + 2) lo) 76 (5 * B 75 0 + 3) hi) 76 (5 * B 75 0 + 4) (km % 10) 76 (5 * B 75 0) = km / 10 := fun X => by
      rw [yu_ne (by omega), yu_ne (by omega), yu_ne (by omega), yu_ne (by omega), yu_at]
    have e1 : ∀ X : YM, yu (yu (yu (yu (yu X 76 (5 * B 75 0) (km / 10)) 76 (5 * B 75 0 + 1) o) 76 (5 * B 75 0 + 2) lo) 76 (5 * B 75 0 + 3) hi) 76 (5 * B 75 0 + 4) (km % 10) 76 (5 * B 75 0 + 1) = o := fun X => by
      rw [yu_ne (by omega), yu_ne (by omega), yu_ne (by omega), yu_at]
    have e2 : ∀ X : YM, yu (yu (yu (yu (yu X 76 (5 * B 75 0) (km / 10)) 76 (5 * B 75 0 + 1) o) 76 (5 * B 75 0 + 2) lo) 76 (5 * B 75 0 + 3) hi) 76 (5 * B 75 0 + 4) (km % 10) 76 (5 * B 75 0 + 2) = lo := fun X => by
      rw [yu_ne (by omega), yu_ne (by omega), yu_at]
    have e3 : ∀ X : YM, yu (yu (yu (yu (yu X 76 (5 * B 75 0) (km / 10)) 76 (5 * B 75 0 + 1) o) 76 (5 * B 75 0 + 2) lo) 76 (5 * B 75 0 + 3) hi) 76 (5 * B 75 0 + 4) (km % 10) 76 (5 * B 75 0 + 3) = hi := fun X => by
      rw [yu_ne (by omega), yu_at]
    rw [e0, e1, e2, e3, yu_at]
    refine ⟨⟨?_, ?_, ?_, ?_, ?_⟩, by omega, by omega, by omega⟩
    · rw [yu_ne (by omega), yu_ne (by omega), yu_ne (by omega), yu_ne (by omega), yu_at]
    · rw [yu_ne (by omega), yu_ne (by omega), yu_ne (by omega), yu_at]
    · rw [yu_ne (by omega), yu_ne (by omega), yu_at]
    · rw [yu_ne (by omega), yu_at]
    · rw [yu_at]
  · have a1 : ∀ k, cSaid A km o lo hi (3 + s) k = A (3 + s) k := fun k => by
      unfold cSaid
      rw [yu_ne (by omega), yu_ne (by omega), yu_ne (by omega), yu_ne (by omega), yu_ne (by omega), yu_ne (by omega)]
    have b1 : ∀ j, 0 ≤ j → j ≤ 4 → mSaid B km o lo hi 76 (5 * s + j) = B 76 (5 * s + j) := fun j j0 j1 => by
      unfold mSaid
      rw [yu_ne (by omega), yu_ne (by omega), yu_ne (by omega), yu_ne (by omega), yu_ne (by omega), yu_ne (by omega)]
    have b0 : mSaid B km o lo hi 76 (5 * s) = B 76 (5 * s) := by
      have := b1 0 (by omega) (by omega)
      rwa [Int.add_zero] at this
    rw [a1, a1, a1, a1, a1, b0, b1 1 (by omega) (by omega), b1 2 (by omega) (by omega), b1 3 (by omega) (by omega), b1 4 (by omega) (by omega)]
    exact h5 s s0 (by omega)
