theorem p_image {S : XS} {M N : YM}  (R : Rel M) : pri S 83 184 [] M N := by
  refine rm_post (rm_deep (Nat.le_of_ble_eq_true rfl) (c_image R.s R.i)) ?_
  rintro _ M1 _ ⟨v, rfl, hv, q1, q2, q3, q4, rfl⟩
  refine ⟨v, rfl, rm_post (rm_deep (Nat.le_of_ble_eq_true rfl) (m_image)) ?_⟩
  rintro _ M2 _ ⟨v2, rfl, hv2, s1, s2, s3, rfl⟩
  refine ⟨by rw [hv, hv2, q4 75 0 (by omega) (by omega) (by omega)], ?_⟩
  obtain ⟨r0, r1, r2, r3'⟩ := q2
  obtain ⟨m0, m1, m2, m3, m4⟩ := s1
  have fr : ∀ c k, c ≠ 13 → (c < 15 ∨ 25 ≤ c) → (c ≠ 0 ∨ k ≠ 2) → c ≠ 81 → (c ≠ 75 ∨ k < 11 ∨ 15 < k) → M2 c k = M c k := fun c k h1 h2 h3 h4 h5 => by
    rw [s3 c k h4 h5, q4 c k h1 h2 h3]
  have g75 : ∀ k, M1 75 k = M 75 k := fun k => q4 75 k (by omega) (by omega) (by omega)
  have hN : RI M2 M2 := by
    refine ⟨by rw [s3 0 2 (by omega) (by omega), q1, m0], Or.inr m0, fun _ => ⟨⟨?_, ?_, ?_, ?_⟩, ?_, ?_, ?_, ?_, fun s s0 s1' => ?_⟩⟩
    · rw [s3 13 1 (by omega) (by omega), m1, r0, g75]; exact R.s.1
    · rw [s3 13 2 (by omega) (by omega), m2, r1, g75]; exact R.l.1
    · rw [s3 13 3 (by omega) (by omega), m3, r2, g75]; exact R.s.2.2.1
    · rw [s3 13 4 (by omega) (by omega), m4, r3', g75]; exact R.t.2.2.1
    · rw [m1, g75]; exact R.s.2.1
    · rw [m2, g75]; exact R.l.2.1
    · rw [m3, g75]; exact R.s.2.2.2.1
    · rw [m4, g75, fr 75 9 (by omega) (by omega) (by omega) (by omega) (by omega)]; exact R.t.2.2.2.1
    · rw [m1, g75] at s1'
      have hs10 := R.s.2.1
      have e1 := R.s.1
      obtain ⟨a0, a1, a2, a3, a4⟩ := q3 s s0 (by omega)
      have b : ∀ i, 0 ≤ i → i < 50 → M2 81 i = M 76 i := fun i i0 i1 => by rw [s2 i i0 i1, q4 76 i (by omega) (by omega) (by omega)]
      rw [s3 (15 + s) 0 (by omega) (by omega), s3 (15 + s) 1 (by omega) (by omega), s3 (15 + s) 2 (by omega) (by omega), s3 (15 + s) 3 (by omega) (by omega), s3 (15 + s) 4 (by omega) (by omega), a0, a1, a2, a3, a4, b (5 * s) (by omega) (by omega), b (5 * s + 1) (by omega) (by omega), b (5 * s + 2) (by omega) (by omega), b (5 * s + 3) (by omega) (by omega), b (5 * s + 4) (by omega) (by omega)]
      exact R.s.2.2.2.2 s s0 s1'
  exact ⟨R.s.fr (fun c k h => fr c k (by omega) (by omega) (by omega) (by omega) (by omega)) (fun c k h => fr c k (by omega) (by omega) (by omega) (by omega) (by omega)), R.l.fr (fun c k h => fr c k (by omega) (by omega) (by omega) (by omega) (by omega)) (fun c k h => fr c k (by omega) (by omega) (by omega) (by omega) (by omega)), R.h.fr (fun c k h => fr c k (by omega) (by omega) (by omega) (by omega) (by omega)) (fun c k h => fr c k (by omega) (by omega) (by omega) (by omega) (by omega)), hN, R.t.fr (fun c k h => fr c k (by omega) (by omega) (by omega) (by omega) (by omega)) (fun c k h => fr c k (by omega) (by omega) (by omega) (by omega) (by omega)), R.r.fr (fun c k h => fr c k (by omega) (by omega) (by omega) (by omega) (by omega)) (fun c k h => fr c k (by omega) (by omega) (by omega) (by omega) (by omega)), R.w.fr (fun k => fr 86 k (by omega) (by omega) (by omega) (by omega) (by omega))⟩
theorem p_back {S : XS} {M N : YM}  (R : Rel M) : pri S 84 185 [] M N := by
  refine rm_post (rm_deep (Nat.le_of_ble_eq_true rfl) (c_back R.s R.i)) ?_
  rintro _ M1 _ ⟨v, rfl, hv, rfl⟩
  have h11 : M1 75 11 = 0 ∨ M1 75 11 = 1 := by
    rcases hv with ⟨n, -, e⟩ | ⟨n, -, q1, q2, q3⟩
    · rw [← e]; exact R.i.2.1
    · rw [q3 75 11 (by omega) (by omega)]; exact R.i.2.1
  refine ⟨v, rfl, rm_post (rm_deep (Nat.le_of_ble_eq_true rfl) (m_back h11)) ?_⟩
  rintro _ M2 _ ⟨v2, rfl, hv2, rfl⟩
  rcases hv with ⟨n, hv, e⟩ | ⟨n, hv, q1, q2, q3⟩
  · rcases hv2 with ⟨n2, hv2, e2⟩ | ⟨n2, -⟩
    · refine ⟨by rw [hv, hv2], ?_⟩
      rw [← e2, ← e]
      exact R
    · rw [← e] at n2
      omega
  · have g75 : ∀ k, M1 75 k = M 75 k := fun k => q3 75 k (by omega) (by omega)
    rcases hv2 with ⟨n2, -⟩ | ⟨n2, hv2, s1, s2, s3⟩
    · rw [g75] at n2
      omega
    · refine ⟨by rw [hv, hv2, g75], ?_⟩
      obtain ⟨r0, r1, r2, r3⟩ := q1
      obtain ⟨m0, m1, m2, m3⟩ := s1
      rw [g75] at m0 m1 m2 m3
      obtain ⟨⟨i0, i1, i2, i3⟩, j0, j1, j2, j3, j4⟩ := R.i.2.2 n
      have fr : ∀ c k, c ≠ 1 → (c < 3 ∨ 13 ≤ c) → c ≠ 76 → (c ≠ 75 ∨ (k ≠ 0 ∧ k ≠ 2 ∧ k ≠ 4 ∧ k ≠ 10)) → M2 c k = M c k := fun c k h1 h2 h3 h4 => by
        rw [s3 c k h3 h4, q3 c k h1 h2]
      have a1 : M2 1 1 = M 13 1 := by rw [s3 1 1 (by omega) (by omega), r0]
      have a2 : M2 1 2 = M 13 2 := by rw [s3 1 2 (by omega) (by omega), r1]
      have a3 : M2 1 3 = M 13 3 := by rw [s3 1 3 (by omega) (by omega), r2]
      have a4 : M2 1 4 = M 13 4 := by rw [s3 1 4 (by omega) (by omega), r3]
      have hS : RS M2 M2 := by
        refine ⟨by rw [a1, m0]; exact i0, by rw [m0]; exact j0, by rw [a3, m2]; exact i2, by rw [m2]; exact j2, fun s s0 s1 => ?_⟩
        rw [m0] at s1
        have b : ∀ i, 0 ≤ i → i < 50 → M2 76 i = M 81 i := fun i i0 i1 => by rw [s2 i i0 i1, q3 81 i (by omega) (by omega)]
        obtain ⟨c0, c1, c2, c3, c4⟩ := q2 s s0 (by omega)
        rw [s3 (3 + s) 0 (by omega) (by omega), s3 (3 + s) 1 (by omega) (by omega), s3 (3 + s) 2 (by omega) (by omega), s3 (3 + s) 3 (by omega) (by omega), s3 (3 + s) 4 (by omega) (by omega), c0, c1, c2, c3, c4, b (5 * s) (by omega) (by omega), b (5 * s + 1) (by omega) (by omega), b (5 * s + 2) (by omega) (by omega), b (5 * s + 3) (by omega) (by omega), b (5 * s + 4) (by omega) (by omega)]
        exact j4 s s0 s1
      have hL : RL M2 M2 := by
        refine ⟨by rw [a2, m1]; exact i1, by rw [m1]; exact j1, fun k k0 k1 => ?_⟩
        have l1 : ∀ x, M2 (41 + k) x = M (41 + k) x := fun x => fr _ x (by omega) (by omega) (by omega) (by omega)
        have l2 : ∀ x, M2 77 x = M 77 x := fun x => fr _ x (by omega) (by omega) (by omega) (by omega)
        rw [l1, l1, l1, l1, l2, l2, l2, l2]
        exact R.l.2.2 k k0 k1
      have b9 : M2 75 9 = M 75 9 := fr 75 9 (by omega) (by omega) (by omega) (by omega)
      have hT : RT M2 M2 := by
        obtain ⟨t1, t2, t3, t4, t5⟩ := R.t
        refine ⟨by rw [fr 0 5 (by omega) (by omega) (by omega) (by omega), b9]; exact t1, by rw [b9]; exact t2, by rw [a4, m3]; exact i3, by rw [m3, b9]; exact j3, fun s s0 s1 => ?_⟩
        rw [b9] at s1
        have a0 : M2 (49 + 3 * s) 3 = M (49 + 3 * s) 3 := fr _ _ (by omega) (by omega) (by omega) (by omega)
        have a1 : M2 (50 + 3 * s) = M (50 + 3 * s) := funext fun k => fr _ _ (by omega) (by omega) (by omega) (by omega)
        have a2 : M2 (51 + 3 * s) = M (51 + 3 * s) := funext fun k => fr _ _ (by omega) (by omega) (by omega) (by omega)
        have a4 : (fun k => M2 79 (200 * s + k)) = fun k => M 79 (200 * s + k) := funext fun k => fr _ _ (by omega) (by omega) (by omega) (by omega)
        have a5 : (fun k => M2 80 (4 * s + k)) = fun k => M 80 (4 * s + k) := funext fun k => fr _ _ (by omega) (by omega) (by omega) (by omega)
        rw [a0, a1, a2, a4, a5]
        exact t5 s s0 s1
      exact ⟨hS, hL, R.h.fr (fun c k h => fr c k (by omega) (by omega) (by omega) (by omega)) (fun c k h => fr c k (by omega) (by omega) (by omega) (by omega)), R.i.fr (fun c k h => fr c k (by omega) (by omega) (by omega) (by omega)) (fun c k h => fr c k (by omega) (by omega) (by omega) (by omega)), hT, R.r.fr (fun c k h => fr c k (by omega) (by omega) (by omega) (by omega)) (fun c k h => fr c k (by omega) (by omega) (by omega) (by omega)), R.w.fr (fun k => fr 86 k (by omega) (by omega) (by omega) (by omega))⟩
theorem p_feed {S : XS} {M N : YM} {n a b c d0 e : Int} (hn : -2147483648 ≤ n ∧ n < 2147483648) (ha : -2147483648 ≤ a ∧ a < 2147483648) (hb : -2147483648 ≤ b ∧ b < 2147483648) (hc : -2147483648 ≤ c ∧ c < 2147483648) (hd0 : -2147483648 ≤ d0 ∧ d0 < 2147483648) (he : -2147483648 ≤ e ∧ e < 2147483648) (R : Rel M) : pri S 54 121 [yi n, yi a, yi b, yi c, yi d0, yi e] M N := by
  refine rm_post (rm_deep (Nat.le_of_ble_eq_true rfl) (c_feed hn ha hb hc hd0 he (by rw [R.r.1]; exact R.r.2.1))) ?_
  rintro _ M1 _ ⟨v, rfl, hv, rfl⟩
  have h6 : M1 75 6 = M 75 6 := by
    rcases hv with ⟨g, l, -, z, q1, q2⟩ | ⟨g, l, -, e0⟩ | ⟨g, -, e0⟩
    · exact q2 75 6 (by omega) (by omega)
    · rw [← e0]
    · rw [← e0]
  refine ⟨v, rfl, rm_post (rm_deep (Nat.le_of_ble_eq_true rfl) (m_feed hn ha hb hc hd0 he (by rw [h6]; exact R.r.2.1))) ?_⟩
  rintro _ M2 _ ⟨v2, rfl, hv2, rfl⟩
  have r0 := R.r.1
  rcases hv with ⟨g, l, hv, z, q1, q2⟩ | ⟨g, l, hv, e0⟩ | ⟨g, hv, e0⟩
  · rcases hv2 with ⟨-, l2, hv2, z2, s1, s2⟩ | ⟨-, l2, -⟩ | ⟨g2, -⟩
    · refine ⟨by rw [hv, hv2, h6, r0], ?_⟩
      have fr : ∀ c k, c ≠ 28 → (c ≠ 27 ∨ k ≠ 1) → c ≠ 78 → (c ≠ 75 ∨ k ≠ 6) → M2 c k = M c k := fun c k h1 h2 h3 h4 => by
        rw [s2 c k (Or.inl h3) h4, q2 c k (Or.inl h1) h2]
      have hN : RR M2 M2 := by
        have z1 : M2 75 6 = M 75 6 + n := by rw [z2, h6]
        have hr := R.r.2.1
        refine ⟨by rw [s2 27 1 (by omega) (by omega), z, z1, r0], by rw [z1]; omega, fun k k0 k1 => ?_⟩
        rw [z1] at k1
        by_cases hk : k < M 75 6
        · rw [s2 28 k (by omega) (by omega), q2 28 k (by omega) (by omega), s2 78 k (by omega) (by omega), q2 78 k (by omega) (by omega)]
          exact R.r.2.2 k k0 hk
        · have x1 := q1 (k - M 75 6) (by omega) (by omega)
          have x2 := s1 (k - M 75 6) (by omega) (by omega)
          rw [h6, show M 75 6 + (k - M 75 6) = k by omega] at x2
          rw [r0, show M 75 6 + (k - M 75 6) = k by omega] at x1
          rw [s2 28 k (by omega) (by omega), x1, x2]
          refine ⟨rfl, ?_⟩
          unfold fPick
          (repeat' split) <;> omega
      exact ⟨R.s.fr (fun c k h => fr c k (by omega) (by omega) (by omega) (by omega)) (fun c k h => fr c k (by omega) (by omega) (by omega) (by omega)), R.l.fr (fun c k h => fr c k (by omega) (by omega) (by omega) (by omega)) (fun c k h => fr c k (by omega) (by omega) (by omega) (by omega)), R.h.fr (fun c k h => fr c k (by omega) (by omega) (by omega) (by omega)) (fun c k h => fr c k (by omega) (by omega) (by omega) (by omega)), R.i.fr (fun c k h => fr c k (by omega) (by omega) (by omega) (by omega)) (fun c k h => fr c k (by omega) (by omega) (by omega) (by omega)), R.t.fr (fun c k h => fr c k (by omega) (by omega) (by omega) (by omega)) (fun c k h => fr c k (by omega) (by omega) (by omega) (by omega)), hN, R.w.fr (fun k => fr 86 k (by omega) (by omega) (by omega) (by omega))⟩
    · omega
    · exact absurd g g2
  · rcases hv2 with ⟨-, l2, -⟩ | ⟨-, -, hv2, e2⟩ | ⟨g2, -⟩
    · omega
    · rw [← e2, ← e0]; exact ⟨by rw [hv, hv2], R⟩
    · exact absurd g g2
  · rcases hv2 with ⟨g2, -⟩ | ⟨g2, -⟩ | ⟨-, hv2, e2⟩
    · exact absurd g2 g
    · exact absurd g2 g
    · rw [← e2, ← e0]; exact ⟨by rw [hv, hv2], R⟩
