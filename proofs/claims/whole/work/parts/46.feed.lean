def fPick (i a b c d e : Int) : Int := if i = 0 then a else if i = 1 then b else if i = 2 then c else if i = 3 then d else e
theorem c_append {S : XS} {M N : YM} {x : Int} (hc : 0 ≤ M 27 1 ∧ M 27 1 < 160) : rm S 0 5 [yr 27, yi x] M N (fun r M' N' => none = r ∧ yu (yu M 28 (M 27 1) x) 27 1 (M 27 1 + 1) = M' ∧ N = N') := by
  refine ⟨xe_5, m_5, Nat.le_of_ble_eq_true rfl, ?_⟩
  refine r_run 4 (pc' := 8) (ls' := [some (yr 27), some (yi x)]) (st' := [yr 28, yi (M 27 1)]) (M' := M) (N' := N) rfl ?_
  refine r_alen (kd := 0) (n := 160) f_5_8 (by decide) (by decide) (by decide) ?_
  refine r_icmp_ge (pc := 9) f_5_9 (by omega) (by omega) (fun h9 => ?_) (fun h9 => ?_)
  · omega
  · refine r_run 5 (pc' := 21) (ls' := [some (yr 27), some (yi x)]) (st' := [yi x, yi (M 27 1), yr 28]) (M' := M) (N' := N) rfl ?_
    refine r_iast (n := 160) f_5_21 (by decide) (by decide) (by decide) (by omega) ?_
    refine r_run 6 (pc' := 32) (ls' := [some (yr 27), some (yi x)]) (st' := []) (M' := (yu (yu M 28 (M 27 1) x) 27 1 ((M 27 1) + 1))) (N' := N) rfl ?_
    refine r_vret m_5 rfl f_5_32 ?_
    exact ⟨rfl, rfl, rfl⟩
theorem c_feed_loop {S : XS} {d : Nat} {n a b c d0 e z : Int} {N : YM} (hd : 1 ≤ d) (hn : n ≤ 5) (hz0 : 0 ≤ z ∧ z + n ≤ 160) {j : Nat} : ∀ {i : Int} {A : YM}, 0 ≤ i → i + j = n → A 27 1 = z + i → ry S d 54 71 [some (yr 0), some (yi n), some (yi a), some (yi b), some (yi c), some (yi d0), some (yi e), some (yi i)] [] A N (fun r M' N' => some (yi (z + n)) = r ∧ M' 27 1 = z + n ∧ (∀ q, i ≤ q → q < n → M' 28 (z + q) = fPick q a b c d0 e) ∧ (∀ x k, x ≠ 28 ∨ k < z + i → x ≠ 27 ∨ k ≠ 1 → M' x k = A x k) ∧ N = N') := by
  induction j with
  | zero =>
    intro i A h0 h1 hA
    refine r_run 2 (pc' := 74) (ls' := [some (yr 0), some (yi n), some (yi a), some (yi b), some (yi c), some (yi d0), some (yi e), some (yi i)]) (st' := [yi n, yi i]) (M' := A) (N' := N) rfl ?_
    refine r_icmp_ge (pc := 74) f_54_74 (by omega) (by omega) (fun h74 => ?_) (fun h74 => ?_)
    · refine r_run 3 (pc' := 140) (ls' := [some (yr 0), some (yi n), some (yi a), some (yi b), some (yi c), some (yi d0), some (yi e), some (yi i)]) (st' := [yi (A 27 1)]) (M' := A) (N' := N) rfl ?_
      refine r_iret m_54 rfl f_54_140 ?_
      exact ⟨by rw [show z + n = z + i by omega, ← hA], by omega, fun q q0 q1 => absurd q0 (by omega), fun _ _ _ _ => rfl, rfl⟩
    · omega
  | succ j ih =>
    intro i A h0 h1 hA
    refine r_run 2 (pc' := 74) (ls' := [some (yr 0), some (yi n), some (yi a), some (yi b), some (yi c), some (yi d0), some (yi e), some (yi i)]) (st' := [yi n, yi i]) (M' := A) (N' := N) rfl ?_
    refine r_icmp_ge (pc := 74) f_54_74 (by omega) (by omega) (fun h74 => ?_) (fun h74 => ?_)
    · refine r_run 3 (pc' := 140) (ls' := [some (yr 0), some (yi n), some (yi a), some (yi b), some (yi c), some (yi d0), some (yi e), some (yi i)]) (st' := [yi (A 27 1)]) (M' := A) (N' := N) rfl ?_
      refine r_iret m_54 rfl f_54_140 ?_
      exact ⟨by rw [show z + n = z + i by omega, ← hA], by omega, fun q q0 q1 => absurd q0 (by omega), fun _ _ _ _ => rfl, rfl⟩
    · refine r_run 3 (pc' := 83) (ls' := [some (yr 0), some (yi n), some (yi a), some (yi b), some (yi c), some (yi d0), some (yi e), some (yi i)]) (st' := [yi i, yr 27]) (M' := A) (N' := N) rfl ?_
      refine r_if_ne (pc := 83) f_54_83 (by omega) (fun h83 => ?_) (fun h83 => ?_)
      · refine r_run 2 (pc' := 93) (ls' := [some (yr 0), some (yi n), some (yi a), some (yi b), some (yi c), some (yi d0), some (yi e), some (yi i)]) (st' := [yi 1, yi i, yr 27]) (M' := A) (N' := N) rfl ?_
        refine r_icmp_ne (pc := 93) f_54_93 (by omega) (by omega) (fun h93 => ?_) (fun h93 => ?_)
        · refine r_run 2 (pc' := 103) (ls' := [some (yr 0), some (yi n), some (yi a), some (yi b), some (yi c), some (yi d0), some (yi e), some (yi i)]) (st' := [yi 2, yi i, yr 27]) (M' := A) (N' := N) rfl ?_
          refine r_icmp_ne (pc := 103) f_54_103 (by omega) (by omega) (fun h103 => ?_) (fun h103 => ?_)
          · refine r_run 2 (pc' := 114) (ls' := [some (yr 0), some (yi n), some (yi a), some (yi b), some (yi c), some (yi d0), some (yi e), some (yi i)]) (st' := [yi 3, yi i, yr 27]) (M' := A) (N' := N) rfl ?_
            refine r_icmp_ne (pc := 114) f_54_114 (by omega) (by omega) (fun h114 => ?_) (fun h114 => ?_)
            · refine r_run 1 (pc' := 124) (ls' := [some (yr 0), some (yi n), some (yi a), some (yi b), some (yi c), some (yi d0), some (yi e), some (yi i)]) (st' := [yi e, yr 27]) (M' := A) (N' := N) rfl ?_
              refine r_virtual (mj := 5) (b := 27) (as := [yi e]) (rest := []) f_54_124 (by decide) rfl m_5 (by decide) (by decide) (by decide) rfl rfl (Nat.le_of_ble_eq_true rfl) (by omega) (c_append (by omega)) ?_
              rintro _ A2 _ ⟨rfl, hA2, rfl⟩
              refine r_run 2 (pc' := 71) (ls' := [some (yr 0), some (yi n), some (yi a), some (yi b), some (yi c), some (yi d0), some (yi e), some (yi (i + 1))]) (st' := []) (M' := A2) (N' := N) rfl ?_
              have hz : fPick i a b c d0 e = e := by
                unfold fPick
                (repeat' split) <;> omega
              have g0 : A2 27 1 = z + (i + 1) := by
                rw [← hA2]
                rw [yu_at]
                omega
              have g1 : A2 28 (z + i) = e := by
                rw [← hA2]
                rw [yu_ne (by omega), ← hA, yu_at]
              have g : ∀ x k, x ≠ 28 ∨ k < z + i → x ≠ 27 ∨ k ≠ 1 → A2 x k = A x k := fun x k h1 h2 => by
                rw [← hA2]
                rw [yu_ne (by omega), yu_ne (by omega)]
              refine r_post (ih (by omega) (by omega) g0) ?_
              rintro _ M3 _ ⟨rfl, q0, q1, q2, rfl⟩
              refine ⟨rfl, q0, fun q q3 q4 => ?_, fun x k h1 h2 => ?_, rfl⟩
              · by_cases hq : q = i
                · rw [hq, hz, q2 _ _ (by omega) (by omega), g1]
                · exact q1 q (by omega) q4
              · rw [q2 x k (by omega) h2, g x k h1 h2]
            · refine r_run 2 (pc' := 124) (ls' := [some (yr 0), some (yi n), some (yi a), some (yi b), some (yi c), some (yi d0), some (yi e), some (yi i)]) (st' := [yi d0, yr 27]) (M' := A) (N' := N) rfl ?_
              refine r_virtual (mj := 5) (b := 27) (as := [yi d0]) (rest := []) f_54_124 (by decide) rfl m_5 (by decide) (by decide) (by decide) rfl rfl (Nat.le_of_ble_eq_true rfl) (by omega) (c_append (by omega)) ?_
              rintro _ A2 _ ⟨rfl, hA2, rfl⟩
              refine r_run 2 (pc' := 71) (ls' := [some (yr 0), some (yi n), some (yi a), some (yi b), some (yi c), some (yi d0), some (yi e), some (yi (i + 1))]) (st' := []) (M' := A2) (N' := N) rfl ?_
              have hz : fPick i a b c d0 e = d0 := by
                unfold fPick
                (repeat' split) <;> omega
              have g0 : A2 27 1 = z + (i + 1) := by
                rw [← hA2]
                rw [yu_at]
                omega
              have g1 : A2 28 (z + i) = d0 := by
                rw [← hA2]
                rw [yu_ne (by omega), ← hA, yu_at]
              have g : ∀ x k, x ≠ 28 ∨ k < z + i → x ≠ 27 ∨ k ≠ 1 → A2 x k = A x k := fun x k h1 h2 => by
                rw [← hA2]
                rw [yu_ne (by omega), yu_ne (by omega)]
              refine r_post (ih (by omega) (by omega) g0) ?_
              rintro _ M3 _ ⟨rfl, q0, q1, q2, rfl⟩
              refine ⟨rfl, q0, fun q q3 q4 => ?_, fun x k h1 h2 => ?_, rfl⟩
              · by_cases hq : q = i
                · rw [hq, hz, q2 _ _ (by omega) (by omega), g1]
                · exact q1 q (by omega) q4
              · rw [q2 x k (by omega) h2, g x k h1 h2]
          · refine r_run 2 (pc' := 124) (ls' := [some (yr 0), some (yi n), some (yi a), some (yi b), some (yi c), some (yi d0), some (yi e), some (yi i)]) (st' := [yi c, yr 27]) (M' := A) (N' := N) rfl ?_
            refine r_virtual (mj := 5) (b := 27) (as := [yi c]) (rest := []) f_54_124 (by decide) rfl m_5 (by decide) (by decide) (by decide) rfl rfl (Nat.le_of_ble_eq_true rfl) (by omega) (c_append (by omega)) ?_
            rintro _ A2 _ ⟨rfl, hA2, rfl⟩
            refine r_run 2 (pc' := 71) (ls' := [some (yr 0), some (yi n), some (yi a), some (yi b), some (yi c), some (yi d0), some (yi e), some (yi (i + 1))]) (st' := []) (M' := A2) (N' := N) rfl ?_
            have hz : fPick i a b c d0 e = c := by
              unfold fPick
              (repeat' split) <;> omega
            have g0 : A2 27 1 = z + (i + 1) := by
              rw [← hA2]
              rw [yu_at]
              omega
            have g1 : A2 28 (z + i) = c := by
              rw [← hA2]
              rw [yu_ne (by omega), ← hA, yu_at]
            have g : ∀ x k, x ≠ 28 ∨ k < z + i → x ≠ 27 ∨ k ≠ 1 → A2 x k = A x k := fun x k h1 h2 => by
              rw [← hA2]
              rw [yu_ne (by omega), yu_ne (by omega)]
            refine r_post (ih (by omega) (by omega) g0) ?_
            rintro _ M3 _ ⟨rfl, q0, q1, q2, rfl⟩
            refine ⟨rfl, q0, fun q q3 q4 => ?_, fun x k h1 h2 => ?_, rfl⟩
            · by_cases hq : q = i
              · rw [hq, hz, q2 _ _ (by omega) (by omega), g1]
              · exact q1 q (by omega) q4
            · rw [q2 x k (by omega) h2, g x k h1 h2]
        · refine r_run 2 (pc' := 124) (ls' := [some (yr 0), some (yi n), some (yi a), some (yi b), some (yi c), some (yi d0), some (yi e), some (yi i)]) (st' := [yi b, yr 27]) (M' := A) (N' := N) rfl ?_
          refine r_virtual (mj := 5) (b := 27) (as := [yi b]) (rest := []) f_54_124 (by decide) rfl m_5 (by decide) (by decide) (by decide) rfl rfl (Nat.le_of_ble_eq_true rfl) (by omega) (c_append (by omega)) ?_
          rintro _ A2 _ ⟨rfl, hA2, rfl⟩
          refine r_run 2 (pc' := 71) (ls' := [some (yr 0), some (yi n), some (yi a), some (yi b), some (yi c), some (yi d0), some (yi e), some (yi (i + 1))]) (st' := []) (M' := A2) (N' := N) rfl ?_
          have hz : fPick i a b c d0 e = b := by
            unfold fPick
            (repeat' split) <;> omega
          have g0 : A2 27 1 = z + (i + 1) := by
            rw [← hA2]
            rw [yu_at]
            omega
          have g1 : A2 28 (z + i) = b := by
            rw [← hA2]
            rw [yu_ne (by omega), ← hA, yu_at]
          have g : ∀ x k, x ≠ 28 ∨ k < z + i → x ≠ 27 ∨ k ≠ 1 → A2 x k = A x k := fun x k h1 h2 => by
            rw [← hA2]
            rw [yu_ne (by omega), yu_ne (by omega)]
          refine r_post (ih (by omega) (by omega) g0) ?_
          rintro _ M3 _ ⟨rfl, q0, q1, q2, rfl⟩
          refine ⟨rfl, q0, fun q q3 q4 => ?_, fun x k h1 h2 => ?_, rfl⟩
          · by_cases hq : q = i
            · rw [hq, hz, q2 _ _ (by omega) (by omega), g1]
            · exact q1 q (by omega) q4
          · rw [q2 x k (by omega) h2, g x k h1 h2]
      · refine r_run 2 (pc' := 124) (ls' := [some (yr 0), some (yi n), some (yi a), some (yi b), some (yi c), some (yi d0), some (yi e), some (yi i)]) (st' := [yi a, yr 27]) (M' := A) (N' := N) rfl ?_
        refine r_virtual (mj := 5) (b := 27) (as := [yi a]) (rest := []) f_54_124 (by decide) rfl m_5 (by decide) (by decide) (by decide) rfl rfl (Nat.le_of_ble_eq_true rfl) (by omega) (c_append (by omega)) ?_
        rintro _ A2 _ ⟨rfl, hA2, rfl⟩
        refine r_run 2 (pc' := 71) (ls' := [some (yr 0), some (yi n), some (yi a), some (yi b), some (yi c), some (yi d0), some (yi e), some (yi (i + 1))]) (st' := []) (M' := A2) (N' := N) rfl ?_
        have hz : fPick i a b c d0 e = a := by
          unfold fPick
          (repeat' split) <;> omega
        have g0 : A2 27 1 = z + (i + 1) := by
          rw [← hA2]
          rw [yu_at]
          omega
        have g1 : A2 28 (z + i) = a := by
          rw [← hA2]
          rw [yu_ne (by omega), ← hA, yu_at]
        have g : ∀ x k, x ≠ 28 ∨ k < z + i → x ≠ 27 ∨ k ≠ 1 → A2 x k = A x k := fun x k h1 h2 => by
          rw [← hA2]
          rw [yu_ne (by omega), yu_ne (by omega)]
        refine r_post (ih (by omega) (by omega) g0) ?_
        rintro _ M3 _ ⟨rfl, q0, q1, q2, rfl⟩
        refine ⟨rfl, q0, fun q q3 q4 => ?_, fun x k h1 h2 => ?_, rfl⟩
        · by_cases hq : q = i
          · rw [hq, hz, q2 _ _ (by omega) (by omega), g1]
          · exact q1 q (by omega) q4
        · rw [q2 x k (by omega) h2, g x k h1 h2]
theorem c_feed {S : XS} {M N : YM} {n a b c d0 e : Int} (hn : -2147483648 ≤ n ∧ n < 2147483648) (ha : -2147483648 ≤ a ∧ a < 2147483648) (hb : -2147483648 ≤ b ∧ b < 2147483648) (hc : -2147483648 ≤ c ∧ c < 2147483648) (hd0 : -2147483648 ≤ d0 ∧ d0 < 2147483648) (he : -2147483648 ≤ e ∧ e < 2147483648) (hc : 0 ≤ M 27 1 ∧ M 27 1 ≤ 160) : rm S 2 54 [yr 0, yi n, yi a, yi b, yi c, yi d0, yi e] M N (fun r M' N' => ∃ v : Int, some (yi v) = r ∧ ((((1 ≤ n ∧ n ≤ 5) ∧ (0 ≤ a ∧ a ≤ 255) ∧ (0 ≤ b ∧ b ≤ 255) ∧ (0 ≤ c ∧ c ≤ 255) ∧ (0 ≤ d0 ∧ d0 ≤ 255) ∧ 0 ≤ e ∧ e ≤ 255) ∧ M 27 1 + n ≤ 160 ∧ v = M 27 1 + n ∧ M' 27 1 = M 27 1 + n ∧ (∀ q, 0 ≤ q → q < n → M' 28 (M 27 1 + q) = fPick q a b c d0 e) ∧ (∀ x k, x ≠ 28 ∨ k < M 27 1 + 0 → x ≠ 27 ∨ k ≠ 1 → M' x k = M x k)) ∨ (((1 ≤ n ∧ n ≤ 5) ∧ (0 ≤ a ∧ a ≤ 255) ∧ (0 ≤ b ∧ b ≤ 255) ∧ (0 ≤ c ∧ c ≤ 255) ∧ (0 ≤ d0 ∧ d0 ≤ 255) ∧ 0 ≤ e ∧ e ≤ 255) ∧ 160 < M 27 1 + n ∧ v = -4 ∧ M = M') ∨ (¬ ((1 ≤ n ∧ n ≤ 5) ∧ (0 ≤ a ∧ a ≤ 255) ∧ (0 ≤ b ∧ b ≤ 255) ∧ (0 ≤ c ∧ c ≤ 255) ∧ (0 ≤ d0 ∧ d0 ≤ 255) ∧ 0 ≤ e ∧ e ≤ 255) ∧ v = -2 ∧ M = M')) ∧ N = N') := by
  refine ⟨xe_54, m_54, Nat.le_of_ble_eq_true rfl, ?_⟩
  refine r_run 3 (pc' := 3) (ls' := [some (yr 0), some (yi n), some (yi a), some (yi b), some (yi c), some (yi d0), some (yi e), none]) (st' := [yi 5, yi 1, yi n]) (M' := M) (N' := N) rfl ?_
  refine r_static (mj := 90) (as := [yi n, yi 1, yi 5]) (rest := []) f_54_3 (by decide) rfl m_90 rfl rfl rfl (Nat.le_of_ble_eq_true rfl) (by omega) (c_within (by omega) (by omega) (by omega)) ?_
  rintro _ _ _ ⟨v3, rfl, hv3, rfl, rfl⟩
  refine r_if_eq (pc := 6) f_54_6 (by omega) (fun h6 => ?_) (fun h6 => ?_)
  · refine r_run 1 (pc' := 49) (ls' := [some (yr 0), some (yi n), some (yi a), some (yi b), some (yi c), some (yi d0), some (yi e), none]) (st' := [yi (-2)]) (M' := M) (N' := N) rfl ?_
    refine r_iret m_54 rfl f_54_49 ?_
    exact ⟨_, rfl, Or.inr (Or.inr ⟨by omega, rfl, rfl⟩), rfl⟩
  · refine r_run 1 (pc' := 10) (ls' := [some (yr 0), some (yi n), some (yi a), some (yi b), some (yi c), some (yi d0), some (yi e), none]) (st' := [yi a]) (M' := M) (N' := N) rfl ?_
    refine r_static (mj := 91) (as := [yi a]) (rest := []) f_54_10 (by decide) rfl m_91 rfl rfl rfl (Nat.le_of_ble_eq_true rfl) (by omega) (c_isByte (by omega)) ?_
    rintro _ _ _ ⟨v10, rfl, hv10, rfl, rfl⟩
    refine r_if_eq (pc := 13) f_54_13 (by omega) (fun h13 => ?_) (fun h13 => ?_)
    · refine r_run 1 (pc' := 49) (ls' := [some (yr 0), some (yi n), some (yi a), some (yi b), some (yi c), some (yi d0), some (yi e), none]) (st' := [yi (-2)]) (M' := M) (N' := N) rfl ?_
      refine r_iret m_54 rfl f_54_49 ?_
      exact ⟨_, rfl, Or.inr (Or.inr ⟨by omega, rfl, rfl⟩), rfl⟩
    · refine r_run 1 (pc' := 17) (ls' := [some (yr 0), some (yi n), some (yi a), some (yi b), some (yi c), some (yi d0), some (yi e), none]) (st' := [yi b]) (M' := M) (N' := N) rfl ?_
      refine r_static (mj := 91) (as := [yi b]) (rest := []) f_54_17 (by decide) rfl m_91 rfl rfl rfl (Nat.le_of_ble_eq_true rfl) (by omega) (c_isByte (by omega)) ?_
      rintro _ _ _ ⟨v17, rfl, hv17, rfl, rfl⟩
      refine r_if_eq (pc := 20) f_54_20 (by omega) (fun h20 => ?_) (fun h20 => ?_)
      · refine r_run 1 (pc' := 49) (ls' := [some (yr 0), some (yi n), some (yi a), some (yi b), some (yi c), some (yi d0), some (yi e), none]) (st' := [yi (-2)]) (M' := M) (N' := N) rfl ?_
        refine r_iret m_54 rfl f_54_49 ?_
        exact ⟨_, rfl, Or.inr (Or.inr ⟨by omega, rfl, rfl⟩), rfl⟩
      · refine r_run 1 (pc' := 25) (ls' := [some (yr 0), some (yi n), some (yi a), some (yi b), some (yi c), some (yi d0), some (yi e), none]) (st' := [yi c]) (M' := M) (N' := N) rfl ?_
        refine r_static (mj := 91) (as := [yi c]) (rest := []) f_54_25 (by decide) rfl m_91 rfl rfl rfl (Nat.le_of_ble_eq_true rfl) (by omega) (c_isByte (by omega)) ?_
        rintro _ _ _ ⟨v25, rfl, hv25, rfl, rfl⟩
        refine r_if_eq (pc := 28) f_54_28 (by omega) (fun h28 => ?_) (fun h28 => ?_)
        · refine r_run 1 (pc' := 49) (ls' := [some (yr 0), some (yi n), some (yi a), some (yi b), some (yi c), some (yi d0), some (yi e), none]) (st' := [yi (-2)]) (M' := M) (N' := N) rfl ?_
          refine r_iret m_54 rfl f_54_49 ?_
          exact ⟨_, rfl, Or.inr (Or.inr ⟨by omega, rfl, rfl⟩), rfl⟩
        · refine r_run 1 (pc' := 33) (ls' := [some (yr 0), some (yi n), some (yi a), some (yi b), some (yi c), some (yi d0), some (yi e), none]) (st' := [yi d0]) (M' := M) (N' := N) rfl ?_
          refine r_static (mj := 91) (as := [yi d0]) (rest := []) f_54_33 (by decide) rfl m_91 rfl rfl rfl (Nat.le_of_ble_eq_true rfl) (by omega) (c_isByte (by omega)) ?_
          rintro _ _ _ ⟨v33, rfl, hv33, rfl, rfl⟩
          refine r_if_eq (pc := 36) f_54_36 (by omega) (fun h36 => ?_) (fun h36 => ?_)
          · refine r_run 1 (pc' := 49) (ls' := [some (yr 0), some (yi n), some (yi a), some (yi b), some (yi c), some (yi d0), some (yi e), none]) (st' := [yi (-2)]) (M' := M) (N' := N) rfl ?_
            refine r_iret m_54 rfl f_54_49 ?_
            exact ⟨_, rfl, Or.inr (Or.inr ⟨by omega, rfl, rfl⟩), rfl⟩
          · refine r_run 1 (pc' := 41) (ls' := [some (yr 0), some (yi n), some (yi a), some (yi b), some (yi c), some (yi d0), some (yi e), none]) (st' := [yi e]) (M' := M) (N' := N) rfl ?_
            refine r_static (mj := 91) (as := [yi e]) (rest := []) f_54_41 (by decide) rfl m_91 rfl rfl rfl (Nat.le_of_ble_eq_true rfl) (by omega) (c_isByte (by omega)) ?_
            rintro _ _ _ ⟨v41, rfl, hv41, rfl, rfl⟩
            refine r_if_ne (pc := 44) f_54_44 (by omega) (fun h44 => ?_) (fun h44 => ?_)
            · refine r_run 6 (pc' := 62) (ls' := [some (yr 0), some (yi n), some (yi a), some (yi b), some (yi c), some (yi d0), some (yi e), none]) (st' := [yi 160, yi ((M 27 1) + n)]) (M' := M) (N' := N) rfl ?_
              refine r_icmp_le (pc := 62) f_54_62 (by omega) (by omega) (fun h62 => ?_) (fun h62 => ?_)
              · refine r_run 2 (pc' := 71) (ls' := [some (yr 0), some (yi n), some (yi a), some (yi b), some (yi c), some (yi d0), some (yi e), some (yi 0)]) (st' := []) (M' := M) (N' := N) rfl ?_
                refine r_post (c_feed_loop (z := M 27 1) (j := n.toNat) (by omega) (by omega) (by omega) (by omega) (by omega) (by omega)) ?_
                rintro _ M3 _ ⟨rfl, q0, q1, q2, rfl⟩
                exact ⟨_, rfl, Or.inl ⟨by omega, by omega, rfl, q0, q1, q2⟩, rfl⟩
              · refine r_run 1 (pc' := 67) (ls' := [some (yr 0), some (yi n), some (yi a), some (yi b), some (yi c), some (yi d0), some (yi e), none]) (st' := [yi (-4)]) (M' := M) (N' := N) rfl ?_
                refine r_iret m_54 rfl f_54_67 ?_
                exact ⟨_, rfl, Or.inr (Or.inl ⟨by omega, by omega, rfl, rfl⟩), rfl⟩
            · refine r_run 1 (pc' := 49) (ls' := [some (yr 0), some (yi n), some (yi a), some (yi b), some (yi c), some (yi d0), some (yi e), none]) (st' := [yi (-2)]) (M' := M) (N' := N) rfl ?_
              refine r_iret m_54 rfl f_54_49 ?_
              exact ⟨_, rfl, Or.inr (Or.inr ⟨by omega, rfl, rfl⟩), rfl⟩
theorem m_feed_loop {S : XS} {d : Nat} {n a b c d0 e z : Int} {N : YM} (hd : 1 ≤ d) (hn : n ≤ 5) (hz0 : 0 ≤ z ∧ z + n ≤ 160) {j : Nat} : ∀ {i : Int} {A : YM}, 0 ≤ i → i + j = n → A 75 6 = z + i → ry S d 121 68 [some (yr 75), some (yi n), some (yi a), some (yi b), some (yi c), some (yi d0), some (yi e), some (yi i)] [] A N (fun r M' N' => some (yi (z + n)) = r ∧ M' 75 6 = z + n ∧ (∀ q, i ≤ q → q < n → M' 78 (z + q) = fPick q a b c d0 e) ∧ (∀ x k, x ≠ 78 ∨ k < z + i → x ≠ 75 ∨ k ≠ 6 → M' x k = A x k) ∧ N = N') := by
  induction j with
  | zero =>
    intro i A h0 h1 hA
    refine r_run 2 (pc' := 71) (ls' := [some (yr 75), some (yi n), some (yi a), some (yi b), some (yi c), some (yi d0), some (yi e), some (yi i)]) (st' := [yi n, yi i]) (M' := A) (N' := N) rfl ?_
    refine r_icmp_ge (pc := 71) f_121_71 (by omega) (by omega) (fun h71 => ?_) (fun h71 => ?_)
    · refine r_run 2 (pc' := 146) (ls' := [some (yr 75), some (yi n), some (yi a), some (yi b), some (yi c), some (yi d0), some (yi e), some (yi i)]) (st' := [yi (A 75 6)]) (M' := A) (N' := N) rfl ?_
      refine r_iret m_121 rfl f_121_146 ?_
      exact ⟨by rw [show z + n = z + i by omega, ← hA], by omega, fun q q0 q1 => absurd q0 (by omega), fun _ _ _ _ => rfl, rfl⟩
    · omega
  | succ j ih =>
    intro i A h0 h1 hA
    refine r_run 2 (pc' := 71) (ls' := [some (yr 75), some (yi n), some (yi a), some (yi b), some (yi c), some (yi d0), some (yi e), some (yi i)]) (st' := [yi n, yi i]) (M' := A) (N' := N) rfl ?_
    refine r_icmp_ge (pc := 71) f_121_71 (by omega) (by omega) (fun h71 => ?_) (fun h71 => ?_)
    · refine r_run 2 (pc' := 146) (ls' := [some (yr 75), some (yi n), some (yi a), some (yi b), some (yi c), some (yi d0), some (yi e), some (yi i)]) (st' := [yi (A 75 6)]) (M' := A) (N' := N) rfl ?_
      refine r_iret m_121 rfl f_121_146 ?_
      exact ⟨by rw [show z + n = z + i by omega, ← hA], by omega, fun q q0 q1 => absurd q0 (by omega), fun _ _ _ _ => rfl, rfl⟩
    · refine r_run 5 (pc' := 84) (ls' := [some (yr 75), some (yi n), some (yi a), some (yi b), some (yi c), some (yi d0), some (yi e), some (yi i)]) (st' := [yi i, yi (A 75 6), yr 78]) (M' := A) (N' := N) rfl ?_
      refine r_if_ne (pc := 84) f_121_84 (by omega) (fun h84 => ?_) (fun h84 => ?_)
      · refine r_run 2 (pc' := 94) (ls' := [some (yr 75), some (yi n), some (yi a), some (yi b), some (yi c), some (yi d0), some (yi e), some (yi i)]) (st' := [yi 1, yi i, yi (A 75 6), yr 78]) (M' := A) (N' := N) rfl ?_
        refine r_icmp_ne (pc := 94) f_121_94 (by omega) (by omega) (fun h94 => ?_) (fun h94 => ?_)
        · refine r_run 2 (pc' := 104) (ls' := [some (yr 75), some (yi n), some (yi a), some (yi b), some (yi c), some (yi d0), some (yi e), some (yi i)]) (st' := [yi 2, yi i, yi (A 75 6), yr 78]) (M' := A) (N' := N) rfl ?_
          refine r_icmp_ne (pc := 104) f_121_104 (by omega) (by omega) (fun h104 => ?_) (fun h104 => ?_)
          · refine r_run 2 (pc' := 115) (ls' := [some (yr 75), some (yi n), some (yi a), some (yi b), some (yi c), some (yi d0), some (yi e), some (yi i)]) (st' := [yi 3, yi i, yi (A 75 6), yr 78]) (M' := A) (N' := N) rfl ?_
            refine r_icmp_ne (pc := 115) f_121_115 (by omega) (by omega) (fun h115 => ?_) (fun h115 => ?_)
            · refine r_run 1 (pc' := 125) (ls' := [some (yr 75), some (yi n), some (yi a), some (yi b), some (yi c), some (yi d0), some (yi e), some (yi i)]) (st' := [yi e, yi (A 75 6), yr 78]) (M' := A) (N' := N) rfl ?_
              refine r_iast (n := 160) f_121_125 (by decide) (by decide) (by decide) (by omega) ?_
              refine r_run 8 (pc' := 68) (ls' := [some (yr 75), some (yi n), some (yi a), some (yi b), some (yi c), some (yi d0), some (yi e), some (yi (i + 1))]) (st' := []) (M' := (yu (yu A 78 (A 75 6) e) 75 6 ((A 75 6) + 1))) (N' := N) rfl ?_
              have hz : fPick i a b c d0 e = e := by
                unfold fPick
                (repeat' split) <;> omega
              have g0 : (yu (yu A 78 (A 75 6) e) 75 6 ((A 75 6) + 1)) 75 6 = z + (i + 1) := by
                rw [yu_at]
                omega
              have g1 : (yu (yu A 78 (A 75 6) e) 75 6 ((A 75 6) + 1)) 78 (z + i) = e := by
                rw [yu_ne (by omega), ← hA, yu_at]
              have g : ∀ x k, x ≠ 78 ∨ k < z + i → x ≠ 75 ∨ k ≠ 6 → (yu (yu A 78 (A 75 6) e) 75 6 ((A 75 6) + 1)) x k = A x k := fun x k h1 h2 => by
                rw [yu_ne (by omega), yu_ne (by omega)]
              refine r_post (ih (by omega) (by omega) g0) ?_
              rintro _ M3 _ ⟨rfl, q0, q1, q2, rfl⟩
              refine ⟨rfl, q0, fun q q3 q4 => ?_, fun x k h1 h2 => ?_, rfl⟩
              · by_cases hq : q = i
                · rw [hq, hz, q2 _ _ (by omega) (by omega), g1]
                · exact q1 q (by omega) q4
              · rw [q2 x k (by omega) h2, g x k h1 h2]
            · refine r_run 2 (pc' := 125) (ls' := [some (yr 75), some (yi n), some (yi a), some (yi b), some (yi c), some (yi d0), some (yi e), some (yi i)]) (st' := [yi d0, yi (A 75 6), yr 78]) (M' := A) (N' := N) rfl ?_
              refine r_iast (n := 160) f_121_125 (by decide) (by decide) (by decide) (by omega) ?_
              refine r_run 8 (pc' := 68) (ls' := [some (yr 75), some (yi n), some (yi a), some (yi b), some (yi c), some (yi d0), some (yi e), some (yi (i + 1))]) (st' := []) (M' := (yu (yu A 78 (A 75 6) d0) 75 6 ((A 75 6) + 1))) (N' := N) rfl ?_
              have hz : fPick i a b c d0 e = d0 := by
                unfold fPick
                (repeat' split) <;> omega
              have g0 : (yu (yu A 78 (A 75 6) d0) 75 6 ((A 75 6) + 1)) 75 6 = z + (i + 1) := by
                rw [yu_at]
                omega
              have g1 : (yu (yu A 78 (A 75 6) d0) 75 6 ((A 75 6) + 1)) 78 (z + i) = d0 := by
                rw [yu_ne (by omega), ← hA, yu_at]
              have g : ∀ x k, x ≠ 78 ∨ k < z + i → x ≠ 75 ∨ k ≠ 6 → (yu (yu A 78 (A 75 6) d0) 75 6 ((A 75 6) + 1)) x k = A x k := fun x k h1 h2 => by
                rw [yu_ne (by omega), yu_ne (by omega)]
              refine r_post (ih (by omega) (by omega) g0) ?_
              rintro _ M3 _ ⟨rfl, q0, q1, q2, rfl⟩
              refine ⟨rfl, q0, fun q q3 q4 => ?_, fun x k h1 h2 => ?_, rfl⟩
              · by_cases hq : q = i
                · rw [hq, hz, q2 _ _ (by omega) (by omega), g1]
                · exact q1 q (by omega) q4
              · rw [q2 x k (by omega) h2, g x k h1 h2]
          · refine r_run 2 (pc' := 125) (ls' := [some (yr 75), some (yi n), some (yi a), some (yi b), some (yi c), some (yi d0), some (yi e), some (yi i)]) (st' := [yi c, yi (A 75 6), yr 78]) (M' := A) (N' := N) rfl ?_
            refine r_iast (n := 160) f_121_125 (by decide) (by decide) (by decide) (by omega) ?_
            refine r_run 8 (pc' := 68) (ls' := [some (yr 75), some (yi n), some (yi a), some (yi b), some (yi c), some (yi d0), some (yi e), some (yi (i + 1))]) (st' := []) (M' := (yu (yu A 78 (A 75 6) c) 75 6 ((A 75 6) + 1))) (N' := N) rfl ?_
            have hz : fPick i a b c d0 e = c := by
              unfold fPick
              (repeat' split) <;> omega
            have g0 : (yu (yu A 78 (A 75 6) c) 75 6 ((A 75 6) + 1)) 75 6 = z + (i + 1) := by
              rw [yu_at]
              omega
            have g1 : (yu (yu A 78 (A 75 6) c) 75 6 ((A 75 6) + 1)) 78 (z + i) = c := by
              rw [yu_ne (by omega), ← hA, yu_at]
            have g : ∀ x k, x ≠ 78 ∨ k < z + i → x ≠ 75 ∨ k ≠ 6 → (yu (yu A 78 (A 75 6) c) 75 6 ((A 75 6) + 1)) x k = A x k := fun x k h1 h2 => by
              rw [yu_ne (by omega), yu_ne (by omega)]
            refine r_post (ih (by omega) (by omega) g0) ?_
            rintro _ M3 _ ⟨rfl, q0, q1, q2, rfl⟩
            refine ⟨rfl, q0, fun q q3 q4 => ?_, fun x k h1 h2 => ?_, rfl⟩
            · by_cases hq : q = i
              · rw [hq, hz, q2 _ _ (by omega) (by omega), g1]
              · exact q1 q (by omega) q4
            · rw [q2 x k (by omega) h2, g x k h1 h2]
        · refine r_run 2 (pc' := 125) (ls' := [some (yr 75), some (yi n), some (yi a), some (yi b), some (yi c), some (yi d0), some (yi e), some (yi i)]) (st' := [yi b, yi (A 75 6), yr 78]) (M' := A) (N' := N) rfl ?_
          refine r_iast (n := 160) f_121_125 (by decide) (by decide) (by decide) (by omega) ?_
          refine r_run 8 (pc' := 68) (ls' := [some (yr 75), some (yi n), some (yi a), some (yi b), some (yi c), some (yi d0), some (yi e), some (yi (i + 1))]) (st' := []) (M' := (yu (yu A 78 (A 75 6) b) 75 6 ((A 75 6) + 1))) (N' := N) rfl ?_
          have hz : fPick i a b c d0 e = b := by
            unfold fPick
            (repeat' split) <;> omega
          have g0 : (yu (yu A 78 (A 75 6) b) 75 6 ((A 75 6) + 1)) 75 6 = z + (i + 1) := by
            rw [yu_at]
            omega
          have g1 : (yu (yu A 78 (A 75 6) b) 75 6 ((A 75 6) + 1)) 78 (z + i) = b := by
            rw [yu_ne (by omega), ← hA, yu_at]
          have g : ∀ x k, x ≠ 78 ∨ k < z + i → x ≠ 75 ∨ k ≠ 6 → (yu (yu A 78 (A 75 6) b) 75 6 ((A 75 6) + 1)) x k = A x k := fun x k h1 h2 => by
            rw [yu_ne (by omega), yu_ne (by omega)]
          refine r_post (ih (by omega) (by omega) g0) ?_
          rintro _ M3 _ ⟨rfl, q0, q1, q2, rfl⟩
          refine ⟨rfl, q0, fun q q3 q4 => ?_, fun x k h1 h2 => ?_, rfl⟩
          · by_cases hq : q = i
            · rw [hq, hz, q2 _ _ (by omega) (by omega), g1]
            · exact q1 q (by omega) q4
          · rw [q2 x k (by omega) h2, g x k h1 h2]
      · refine r_run 2 (pc' := 125) (ls' := [some (yr 75), some (yi n), some (yi a), some (yi b), some (yi c), some (yi d0), some (yi e), some (yi i)]) (st' := [yi a, yi (A 75 6), yr 78]) (M' := A) (N' := N) rfl ?_
        refine r_iast (n := 160) f_121_125 (by decide) (by decide) (by decide) (by omega) ?_
        refine r_run 8 (pc' := 68) (ls' := [some (yr 75), some (yi n), some (yi a), some (yi b), some (yi c), some (yi d0), some (yi e), some (yi (i + 1))]) (st' := []) (M' := (yu (yu A 78 (A 75 6) a) 75 6 ((A 75 6) + 1))) (N' := N) rfl ?_
        have hz : fPick i a b c d0 e = a := by
          unfold fPick
          (repeat' split) <;> omega
        have g0 : (yu (yu A 78 (A 75 6) a) 75 6 ((A 75 6) + 1)) 75 6 = z + (i + 1) := by
          rw [yu_at]
          omega
        have g1 : (yu (yu A 78 (A 75 6) a) 75 6 ((A 75 6) + 1)) 78 (z + i) = a := by
          rw [yu_ne (by omega), ← hA, yu_at]
        have g : ∀ x k, x ≠ 78 ∨ k < z + i → x ≠ 75 ∨ k ≠ 6 → (yu (yu A 78 (A 75 6) a) 75 6 ((A 75 6) + 1)) x k = A x k := fun x k h1 h2 => by
          rw [yu_ne (by omega), yu_ne (by omega)]
        refine r_post (ih (by omega) (by omega) g0) ?_
        rintro _ M3 _ ⟨rfl, q0, q1, q2, rfl⟩
        refine ⟨rfl, q0, fun q q3 q4 => ?_, fun x k h1 h2 => ?_, rfl⟩
        · by_cases hq : q = i
          · rw [hq, hz, q2 _ _ (by omega) (by omega), g1]
          · exact q1 q (by omega) q4
        · rw [q2 x k (by omega) h2, g x k h1 h2]
theorem m_feed {S : XS} {M N : YM} {n a b c d0 e : Int} (hn : -2147483648 ≤ n ∧ n < 2147483648) (ha : -2147483648 ≤ a ∧ a < 2147483648) (hb : -2147483648 ≤ b ∧ b < 2147483648) (hc : -2147483648 ≤ c ∧ c < 2147483648) (hd0 : -2147483648 ≤ d0 ∧ d0 < 2147483648) (he : -2147483648 ≤ e ∧ e < 2147483648) (hc : 0 ≤ M 75 6 ∧ M 75 6 ≤ 160) : rm S 2 121 [yr 75, yi n, yi a, yi b, yi c, yi d0, yi e] M N (fun r M' N' => ∃ v : Int, some (yi v) = r ∧ ((((1 ≤ n ∧ n ≤ 5) ∧ (0 ≤ a ∧ a ≤ 255) ∧ (0 ≤ b ∧ b ≤ 255) ∧ (0 ≤ c ∧ c ≤ 255) ∧ (0 ≤ d0 ∧ d0 ≤ 255) ∧ 0 ≤ e ∧ e ≤ 255) ∧ M 75 6 + n ≤ 160 ∧ v = M 75 6 + n ∧ M' 75 6 = M 75 6 + n ∧ (∀ q, 0 ≤ q → q < n → M' 78 (M 75 6 + q) = fPick q a b c d0 e) ∧ (∀ x k, x ≠ 78 ∨ k < M 75 6 + 0 → x ≠ 75 ∨ k ≠ 6 → M' x k = M x k)) ∨ (((1 ≤ n ∧ n ≤ 5) ∧ (0 ≤ a ∧ a ≤ 255) ∧ (0 ≤ b ∧ b ≤ 255) ∧ (0 ≤ c ∧ c ≤ 255) ∧ (0 ≤ d0 ∧ d0 ≤ 255) ∧ 0 ≤ e ∧ e ≤ 255) ∧ 160 < M 75 6 + n ∧ v = -4 ∧ M = M') ∨ (¬ ((1 ≤ n ∧ n ≤ 5) ∧ (0 ≤ a ∧ a ≤ 255) ∧ (0 ≤ b ∧ b ≤ 255) ∧ (0 ≤ c ∧ c ≤ 255) ∧ (0 ≤ d0 ∧ d0 ≤ 255) ∧ 0 ≤ e ∧ e ≤ 255) ∧ v = -2 ∧ M = M')) ∧ N = N') := by
  refine ⟨xe_121, m_121, Nat.le_of_ble_eq_true rfl, ?_⟩
  refine r_run 3 (pc' := 3) (ls' := [some (yr 75), some (yi n), some (yi a), some (yi b), some (yi c), some (yi d0), some (yi e), none]) (st' := [yi 5, yi 1, yi n]) (M' := M) (N' := N) rfl ?_
  refine r_static (mj := 112) (as := [yi n, yi 1, yi 5]) (rest := []) f_121_3 (by decide) rfl m_112 rfl rfl rfl (Nat.le_of_ble_eq_true rfl) (by omega) (m_in (by omega) (by omega) (by omega)) ?_
  rintro _ _ _ ⟨v3, rfl, hv3, rfl, rfl⟩
  refine r_if_eq (pc := 6) f_121_6 (by omega) (fun h6 => ?_) (fun h6 => ?_)
  · refine r_run 1 (pc' := 49) (ls' := [some (yr 75), some (yi n), some (yi a), some (yi b), some (yi c), some (yi d0), some (yi e), none]) (st' := [yi (-2)]) (M' := M) (N' := N) rfl ?_
    refine r_iret m_121 rfl f_121_49 ?_
    exact ⟨_, rfl, Or.inr (Or.inr ⟨by omega, rfl, rfl⟩), rfl⟩
  · refine r_run 1 (pc' := 10) (ls' := [some (yr 75), some (yi n), some (yi a), some (yi b), some (yi c), some (yi d0), some (yi e), none]) (st' := [yi a]) (M' := M) (N' := N) rfl ?_
    refine r_static (mj := 120) (as := [yi a]) (rest := []) f_121_10 (by decide) rfl m_120 rfl rfl rfl (Nat.le_of_ble_eq_true rfl) (by omega) (m_isByte (by omega)) ?_
    rintro _ _ _ ⟨v10, rfl, hv10, rfl, rfl⟩
    refine r_if_eq (pc := 13) f_121_13 (by omega) (fun h13 => ?_) (fun h13 => ?_)
    · refine r_run 1 (pc' := 49) (ls' := [some (yr 75), some (yi n), some (yi a), some (yi b), some (yi c), some (yi d0), some (yi e), none]) (st' := [yi (-2)]) (M' := M) (N' := N) rfl ?_
      refine r_iret m_121 rfl f_121_49 ?_
      exact ⟨_, rfl, Or.inr (Or.inr ⟨by omega, rfl, rfl⟩), rfl⟩
    · refine r_run 1 (pc' := 17) (ls' := [some (yr 75), some (yi n), some (yi a), some (yi b), some (yi c), some (yi d0), some (yi e), none]) (st' := [yi b]) (M' := M) (N' := N) rfl ?_
      refine r_static (mj := 120) (as := [yi b]) (rest := []) f_121_17 (by decide) rfl m_120 rfl rfl rfl (Nat.le_of_ble_eq_true rfl) (by omega) (m_isByte (by omega)) ?_
      rintro _ _ _ ⟨v17, rfl, hv17, rfl, rfl⟩
      refine r_if_eq (pc := 20) f_121_20 (by omega) (fun h20 => ?_) (fun h20 => ?_)
      · refine r_run 1 (pc' := 49) (ls' := [some (yr 75), some (yi n), some (yi a), some (yi b), some (yi c), some (yi d0), some (yi e), none]) (st' := [yi (-2)]) (M' := M) (N' := N) rfl ?_
        refine r_iret m_121 rfl f_121_49 ?_
        exact ⟨_, rfl, Or.inr (Or.inr ⟨by omega, rfl, rfl⟩), rfl⟩
      · refine r_run 1 (pc' := 25) (ls' := [some (yr 75), some (yi n), some (yi a), some (yi b), some (yi c), some (yi d0), some (yi e), none]) (st' := [yi c]) (M' := M) (N' := N) rfl ?_
        refine r_static (mj := 120) (as := [yi c]) (rest := []) f_121_25 (by decide) rfl m_120 rfl rfl rfl (Nat.le_of_ble_eq_true rfl) (by omega) (m_isByte (by omega)) ?_
        rintro _ _ _ ⟨v25, rfl, hv25, rfl, rfl⟩
        refine r_if_eq (pc := 28) f_121_28 (by omega) (fun h28 => ?_) (fun h28 => ?_)
        · refine r_run 1 (pc' := 49) (ls' := [some (yr 75), some (yi n), some (yi a), some (yi b), some (yi c), some (yi d0), some (yi e), none]) (st' := [yi (-2)]) (M' := M) (N' := N) rfl ?_
          refine r_iret m_121 rfl f_121_49 ?_
          exact ⟨_, rfl, Or.inr (Or.inr ⟨by omega, rfl, rfl⟩), rfl⟩
        · refine r_run 1 (pc' := 33) (ls' := [some (yr 75), some (yi n), some (yi a), some (yi b), some (yi c), some (yi d0), some (yi e), none]) (st' := [yi d0]) (M' := M) (N' := N) rfl ?_
          refine r_static (mj := 120) (as := [yi d0]) (rest := []) f_121_33 (by decide) rfl m_120 rfl rfl rfl (Nat.le_of_ble_eq_true rfl) (by omega) (m_isByte (by omega)) ?_
          rintro _ _ _ ⟨v33, rfl, hv33, rfl, rfl⟩
          refine r_if_eq (pc := 36) f_121_36 (by omega) (fun h36 => ?_) (fun h36 => ?_)
          · refine r_run 1 (pc' := 49) (ls' := [some (yr 75), some (yi n), some (yi a), some (yi b), some (yi c), some (yi d0), some (yi e), none]) (st' := [yi (-2)]) (M' := M) (N' := N) rfl ?_
            refine r_iret m_121 rfl f_121_49 ?_
            exact ⟨_, rfl, Or.inr (Or.inr ⟨by omega, rfl, rfl⟩), rfl⟩
          · refine r_run 1 (pc' := 41) (ls' := [some (yr 75), some (yi n), some (yi a), some (yi b), some (yi c), some (yi d0), some (yi e), none]) (st' := [yi e]) (M' := M) (N' := N) rfl ?_
            refine r_static (mj := 120) (as := [yi e]) (rest := []) f_121_41 (by decide) rfl m_120 rfl rfl rfl (Nat.le_of_ble_eq_true rfl) (by omega) (m_isByte (by omega)) ?_
            rintro _ _ _ ⟨v41, rfl, hv41, rfl, rfl⟩
            refine r_if_ne (pc := 44) f_121_44 (by omega) (fun h44 => ?_) (fun h44 => ?_)
            · refine r_run 5 (pc' := 59) (ls' := [some (yr 75), some (yi n), some (yi a), some (yi b), some (yi c), some (yi d0), some (yi e), none]) (st' := [yi 160, yi ((M 75 6) + n)]) (M' := M) (N' := N) rfl ?_
              refine r_icmp_le (pc := 59) f_121_59 (by omega) (by omega) (fun h59 => ?_) (fun h59 => ?_)
              · refine r_run 2 (pc' := 68) (ls' := [some (yr 75), some (yi n), some (yi a), some (yi b), some (yi c), some (yi d0), some (yi e), some (yi 0)]) (st' := []) (M' := M) (N' := N) rfl ?_
                refine r_post (m_feed_loop (z := M 75 6) (j := n.toNat) (by omega) (by omega) (by omega) (by omega) (by omega) (by omega)) ?_
                rintro _ M3 _ ⟨rfl, q0, q1, q2, rfl⟩
                exact ⟨_, rfl, Or.inl ⟨by omega, by omega, rfl, q0, q1, q2⟩, rfl⟩
              · refine r_run 1 (pc' := 64) (ls' := [some (yr 75), some (yi n), some (yi a), some (yi b), some (yi c), some (yi d0), some (yi e), none]) (st' := [yi (-4)]) (M' := M) (N' := N) rfl ?_
                refine r_iret m_121 rfl f_121_64 ?_
                exact ⟨_, rfl, Or.inr (Or.inl ⟨by omega, by omega, rfl, rfl⟩), rfl⟩
            · refine r_run 1 (pc' := 49) (ls' := [some (yr 75), some (yi n), some (yi a), some (yi b), some (yi c), some (yi d0), some (yi e), none]) (st' := [yi (-2)]) (M' := M) (N' := N) rfl ?_
              refine r_iret m_121 rfl f_121_49 ?_
              exact ⟨_, rfl, Or.inr (Or.inr ⟨by omega, rfl, rfl⟩), rfl⟩
