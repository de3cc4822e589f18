theorem m_says_l {S : XS} {d : Nat} {t p e : Int} {A E C nm : Int → Int} {N : YM} (hd : 3 ≤ d) (ht6 : 0 ≤ t ∧ t < 6) (hp : 0 ≤ p ∧ p < 3) (hEp : E (4 * t + p + 1) = e) (he : e ≤ 160) (hAC : ∀ k, 0 ≤ k → k < e → A (200 * t + k) = C k ∧ tVal (C k)) (hN : ∀ q, in6 q → -2147483648 ≤ nm q ∧ nm q < 2147483648) {j : Nat} : ∀ {i n : Int} {M : YM} {l4 : Option YV}, 0 ≤ i → i + j = e → 0 ≤ n → n ≤ i → tDp C j i n 1 → M 75 10 = t → M 79 = A → M 80 = E → M 89 = nm → (∀ x, 0 ≤ x → x < n → -2147483648 ≤ M 88 x ∧ M 88 x < 2147483648) → ry S d 134 16 [some (yr 75), some (yi p), some (yi n), some (yi i), l4] [] M N (fun r M' N' => some (yi (evR C nm j i (M 88) n 0)) = r ∧ (∀ c, c ≠ 88 → M' c = M c) ∧ N = N') := by
  induction j with
  | zero =>
    intro i n M l4 h0 h1 hn hni hD ht hA hE hV hR
    have hE2 : M 80 (4 * M 75 10 + p + 1) = e := by rw [hE, ht]; exact hEp
    have hD0 : n = 1 := hD
    have r1 := hR 0 (by omega) (by omega)
    refine r_run 11 (pc' := 31) (ls' := [some (yr 75), some (yi p), some (yi n), some (yi i), l4]) (st' := [yi (((4 * (M 75 10)) + p) + 1), yr 80, yi i]) (M' := M) (N' := N) rfl ?_
    refine r_iald (n := 24) f_134_31 (by decide) (by decide) (by decide) (by omega) ?_
    refine r_icmp_ge (pc := 32) f_134_32 (by omega) (by omega) (fun h32 => ?_) (fun h32 => ?_)
    · refine r_run 3 (pc' := 202) (ls' := [some (yr 75), some (yi p), some (yi n), some (yi i), l4]) (st' := [yi 0, yr 88]) (M' := M) (N' := N) rfl ?_
      refine r_iald (n := 200) f_134_202 (by decide) (by decide) (by decide) (by omega) ?_
      refine r_iret m_134 rfl f_134_203 ?_
      exact ⟨rfl, fun c hc => rfl, rfl⟩
    · exfalso; omega
  | succ j ih =>
    intro i n M l4 h0 h1 hn hni hD ht hA hE hV hR
    have hE2 : M 80 (4 * M 75 10 + p + 1) = e := by rw [hE, ht]; exact hEp
    obtain ⟨hAi, hCi⟩ := hAC i h0 (by omega)
    have hCe : M 79 (200 * M 75 10 + i) = C i := by rw [hA, ht]; exact hAi
    refine r_run 11 (pc' := 31) (ls' := [some (yr 75), some (yi p), some (yi n), some (yi i), l4]) (st' := [yi (((4 * (M 75 10)) + p) + 1), yr 80, yi i]) (M' := M) (N' := N) rfl ?_
    refine r_iald (n := 24) f_134_31 (by decide) (by decide) (by decide) (by omega) ?_
    refine r_icmp_ge (pc := 32) f_134_32 (by omega) (by omega) (fun h32 => ?_) (fun h32 => ?_)
    · exfalso; omega
    · refine r_run 8 (pc' := 49) (ls' := [some (yr 75), some (yi p), some (yi n), some (yi i), l4]) (st' := [yi ((200 * (M 75 10)) + i), yr 79]) (M' := M) (N' := N) rfl ?_
      refine r_iald (n := 1200) f_134_49 (by decide) (by decide) (by decide) (by omega) ?_
      refine r_run 3 (pc' := 56) (ls' := [some (yr 75), some (yi p), some (yi n), some (yi i), some (yi (M 79 ((200 * (M 75 10)) + i)))]) (st' := [yi 100000, yi (M 79 ((200 * (M 75 10)) + i))]) (M' := M) (N' := N) rfl ?_
      refine r_icmp_ge (pc := 56) f_134_56 (by omega) (by omega) (fun h56 => ?_) (fun h56 => ?_)
      · refine r_run 5 (pc' := 75) (ls' := [some (yr 75), some (yi p), some (yi n), some (yi i), some (yi (M 79 ((200 * (M 75 10)) + i)))]) (st' := [yi 11, yi (M 79 ((200 * (M 75 10)) + i)), yi n, yr 88]) (M' := M) (N' := N) rfl ?_
        refine r_icmp_ge (pc := 75) f_134_75 (by omega) (by omega) (fun h75 => ?_) (fun h75 => ?_)
        · refine r_run 3 (pc' := 93) (ls' := [some (yr 75), some (yi p), some (yi n), some (yi i), some (yi (M 79 ((200 * (M 75 10)) + i)))]) (st' := [yi ((M 79 ((200 * (M 75 10)) + i)) - 100000), yi n, yr 88]) (M' := M) (N' := N) rfl ?_
          refine r_iast (n := 200) f_134_93 (by decide) (by decide) (by decide) (by omega) ?_
          refine r_run 4 (pc' := 16) (ls' := [some (yr 75), some (yi p), some (yi (n + 1)), some (yi (i + 1)), some (yi (M 79 ((200 * (M 75 10)) + i)))]) (st' := []) (M' := (yu M 88 n ((M 79 ((200 * (M 75 10)) + i)) - 100000))) (N' := N) rfl ?_
          have hc1 : C i < 11 ∨ 100000 ≤ C i := by omega
          unfold tDp at hD
          rw [if_pos hc1] at hD
          have ev : M 79 (200 * M 75 10 + i) - 100000 = (if C i < 11 then nm (C i) else C i - 100000) := by
            rw [if_neg (by omega), hCe]
          rw [evR_a hc1, yu_row, ev]
          refine r_post (ih (by omega) (by omega) (by omega) (by omega) hD (by rw [yrow_ne (by omega)]; exact ht) (by rw [yrow_ne (by omega)]; exact hA) (by rw [yrow_ne (by omega)]; exact hE) (by rw [yrow_ne (by omega)]; exact hV) ?_) ?_
          · rw [yrow_at]
            intro x x0 x1
            unfold up
            split
            · split
              · exact hN _ ⟨by omega, by omega⟩
              · omega
            · exact hR x x0 (by omega)
          rintro _ M' _ ⟨rfl, hfr, rfl⟩
          rw [yrow_at]
          exact ⟨rfl, fun c hc => by rw [hfr c hc, yrow_ne hc], rfl⟩
        · refine r_run 3 (pc' := 84) (ls' := [some (yr 75), some (yi p), some (yi n), some (yi i), some (yi (M 79 ((200 * (M 75 10)) + i)))]) (st' := [yi (M 79 ((200 * (M 75 10)) + i)), yr 89, yi n, yr 88]) (M' := M) (N' := N) rfl ?_
          refine r_iald (n := 6) f_134_84 (by decide) (by decide) (by decide) (by omega) ?_
          refine r_run 1 (pc' := 93) (ls' := [some (yr 75), some (yi p), some (yi n), some (yi i), some (yi (M 79 ((200 * (M 75 10)) + i)))]) (st' := [yi (M 89 (M 79 ((200 * (M 75 10)) + i))), yi n, yr 88]) (M' := M) (N' := N) rfl ?_
          refine r_iast (n := 200) f_134_93 (by decide) (by decide) (by decide) (by omega) ?_
          refine r_run 4 (pc' := 16) (ls' := [some (yr 75), some (yi p), some (yi (n + 1)), some (yi (i + 1)), some (yi (M 79 ((200 * (M 75 10)) + i)))]) (st' := []) (M' := (yu M 88 n (M 89 (M 79 ((200 * (M 75 10)) + i))))) (N' := N) rfl ?_
          exfalso; omega
      · refine r_run 2 (pc' := 63) (ls' := [some (yr 75), some (yi p), some (yi n), some (yi i), some (yi (M 79 ((200 * (M 75 10)) + i)))]) (st' := [yi 11, yi (M 79 ((200 * (M 75 10)) + i))]) (M' := M) (N' := N) rfl ?_
        refine r_icmp_ge (pc := 63) f_134_63 (by omega) (by omega) (fun h63 => ?_) (fun h63 => ?_)
        · refine r_run 2 (pc' := 104) (ls' := [some (yr 75), some (yi p), some (yi n), some (yi i), some (yi (M 79 ((200 * (M 75 10)) + i)))]) (st' := [yi 13, yi (M 79 ((200 * (M 75 10)) + i))]) (M' := M) (N' := N) rfl ?_
          refine r_icmp_ne (pc := 104) f_134_104 (by omega) (by omega) (fun h104 => ?_) (fun h104 => ?_)
          · refine r_run 2 (pc' := 138) (ls' := [some (yr 75), some (yi p), some (yi n), some (yi i), some (yi (M 79 ((200 * (M 75 10)) + i)))]) (st' := [yi 19, yi (M 79 ((200 * (M 75 10)) + i))]) (M' := M) (N' := N) rfl ?_
            refine r_icmp_ne (pc := 138) f_134_138 (by omega) (by omega) (fun h138 => ?_) (fun h138 => ?_)
            · have hn13 : ¬ (C i = 13 ∨ C i = 19) := by omega
              unfold tDp at hD
              rw [if_neg (by omega), if_neg hn13] at hD
              have r1 := hR (n + -1) (by omega) (by omega)
              have r2 := hR (n + -1 - 1) (by omega) (by omega)
              refine r_run 12 (pc' := 180) (ls' := [some (yr 75), some (yi p), some (yi (n + (-1))), some (yi i), some (yi (M 79 ((200 * (M 75 10)) + i)))]) (st' := [yi ((n + (-1)) - 1), yr 88, yi (M 79 ((200 * (M 75 10)) + i)), yi ((n + (-1)) - 1), yr 88]) (M' := M) (N' := N) rfl ?_
              refine r_iald (n := 200) f_134_180 (by decide) (by decide) (by decide) (by omega) ?_
              refine r_run 3 (pc' := 186) (ls' := [some (yr 75), some (yi p), some (yi (n + (-1))), some (yi i), some (yi (M 79 ((200 * (M 75 10)) + i)))]) (st' := [yi (n + (-1)), yr 88, yi (M 88 ((n + (-1)) - 1)), yi (M 79 ((200 * (M 75 10)) + i)), yi ((n + (-1)) - 1), yr 88]) (M' := M) (N' := N) rfl ?_
              refine r_iald (n := 200) f_134_186 (by decide) (by decide) (by decide) (by omega) ?_
              refine r_static (mj := 133) (as := [yi (M 79 ((200 * (M 75 10)) + i)), yi (M 88 ((n + (-1)) - 1)), yi (M 88 (n + (-1)))]) (rest := [yi ((n + (-1)) - 1), yr 88]) f_134_187 (by decide) rfl m_133 rfl rfl rfl (Nat.le_of_ble_eq_true rfl) (by omega) (m_two (by omega) (by omega) (by omega)) ?_
              rintro _ _ _ ⟨v187, rfl, hv187, rfl, rfl⟩
              refine r_iast (n := 200) f_134_190 (by decide) (by decide) (by decide) (by omega) ?_
              refine r_run 2 (pc' := 16) (ls' := [some (yr 75), some (yi p), some (yi (n + (-1))), some (yi (i + 1)), some (yi (M 79 ((200 * (M 75 10)) + i)))]) (st' := []) (M' := (yu M 88 ((n + (-1)) - 1) v187)) (N' := N) rfl ?_
              have hc1 : tTwo (C i) := ⟨by omega, by omega, by omega⟩
              rw [hCe] at hv187
              rw [evR_d hc1, yu_row, hv187, show n + -1 - 1 = n - 2 by omega, show n + -1 = n - 1 by omega]
              refine r_post (ih (by omega) (by omega) (by omega) (by omega) hD.2 (by rw [yrow_ne (by omega)]; exact ht) (by rw [yrow_ne (by omega)]; exact hA) (by rw [yrow_ne (by omega)]; exact hE) (by rw [yrow_ne (by omega)]; exact hV) ?_) ?_
              · rw [yrow_at]
                intro x x0 x1
                unfold up
                split
                · exact tw_in _ _ _
                · exact hR x x0 (by omega)
              rintro _ M' _ ⟨rfl, hfr, rfl⟩
              rw [yrow_at]
              exact ⟨rfl, fun c hc => by rw [hfr c hc, yrow_ne hc], rfl⟩
            · have hc13 : C i = 13 ∨ C i = 19 := by omega
              unfold tDp at hD
              rw [if_neg (by omega), if_pos hc13] at hD
              have r1 := hR (n - 1) (by omega) (by omega)
              refine r_run 10 (pc' := 155) (ls' := [some (yr 75), some (yi p), some (yi n), some (yi i), some (yi (M 79 ((200 * (M 75 10)) + i)))]) (st' := [yi (n - 1), yr 88, yi (n - 1), yr 88]) (M' := M) (N' := N) rfl ?_
              refine r_iald (n := 200) f_134_155 (by decide) (by decide) (by decide) (by omega) ?_
              refine r_run 1 (pc' := 157) (ls' := [some (yr 75), some (yi p), some (yi n), some (yi i), some (yi (M 79 ((200 * (M 75 10)) + i)))]) (st' := [yi (-(M 88 (n - 1))), yi (n - 1), yr 88]) (M' := M) (N' := N) rfl ?_
              refine r_top (wr_of _) ?_
              refine r_iast (n := 200) f_134_157 (by decide) (by decide) (by decide) (by omega) ?_
              refine r_run 3 (pc' := 16) (ls' := [some (yr 75), some (yi p), some (yi n), some (yi (i + 1)), some (yi (M 79 ((200 * (M 75 10)) + i)))]) (st' := []) (M' := (yu M 88 (n - 1) (wr (-(M 88 (n - 1)))))) (N' := N) rfl ?_
              have hc1 : C i = 19 := by omega
              rw [evR_c hc1, yu_row]
              refine r_post (ih (by omega) (by omega) (by omega) (by omega) hD.2 (by rw [yrow_ne (by omega)]; exact ht) (by rw [yrow_ne (by omega)]; exact hA) (by rw [yrow_ne (by omega)]; exact hE) (by rw [yrow_ne (by omega)]; exact hV) ?_) ?_
              · rw [yrow_at]
                intro x x0 x1
                unfold up
                split
                · exact wr_in _
                · exact hR x x0 (by omega)
              rintro _ M' _ ⟨rfl, hfr, rfl⟩
              rw [yrow_at]
              exact ⟨rfl, fun c hc => by rw [hfr c hc, yrow_ne hc], rfl⟩
          · have hc13 : C i = 13 ∨ C i = 19 := by omega
            unfold tDp at hD
            rw [if_neg (by omega), if_pos hc13] at hD
            have r1 := hR (n - 1) (by omega) (by omega)
            refine r_run 10 (pc' := 121) (ls' := [some (yr 75), some (yi p), some (yi n), some (yi i), some (yi (M 79 ((200 * (M 75 10)) + i)))]) (st' := [yi (n - 1), yr 88, yi (n - 1), yr 88]) (M' := M) (N' := N) rfl ?_
            refine r_iald (n := 200) f_134_121 (by decide) (by decide) (by decide) (by omega) ?_
            refine r_if_ne (pc := 122) f_134_122 (by omega) (fun h122 => ?_) (fun h122 => ?_)
            · refine r_run 1 (pc' := 130) (ls' := [some (yr 75), some (yi p), some (yi n), some (yi i), some (yi (M 79 ((200 * (M 75 10)) + i)))]) (st' := [yi 0, yi (n - 1), yr 88]) (M' := M) (N' := N) rfl ?_
              refine r_top (b := if M 88 (n - 1) = 0 then 1 else 0) (by rw [if_neg (by omega)]) ?_
              refine r_iast (n := 200) f_134_130 (by decide) (by decide) (by decide) (by omega) ?_
              refine r_run 3 (pc' := 16) (ls' := [some (yr 75), some (yi p), some (yi n), some (yi (i + 1)), some (yi (M 79 ((200 * (M 75 10)) + i)))]) (st' := []) (M' := (yu M 88 (n - 1) (if M 88 (n - 1) = 0 then 1 else 0))) (N' := N) rfl ?_
              have hc1 : C i = 13 := by omega
              rw [evR_b hc1, yu_row]
              refine r_post (ih (by omega) (by omega) (by omega) (by omega) hD.2 (by rw [yrow_ne (by omega)]; exact ht) (by rw [yrow_ne (by omega)]; exact hA) (by rw [yrow_ne (by omega)]; exact hE) (by rw [yrow_ne (by omega)]; exact hV) ?_) ?_
              · rw [yrow_at]
                intro x x0 x1
                unfold up
                split
                · (repeat' split) <;> omega
                · exact hR x x0 (by omega)
              rintro _ M' _ ⟨rfl, hfr, rfl⟩
              rw [yrow_at]
              exact ⟨rfl, fun c hc => by rw [hfr c hc, yrow_ne hc], rfl⟩
            · refine r_run 2 (pc' := 130) (ls' := [some (yr 75), some (yi p), some (yi n), some (yi i), some (yi (M 79 ((200 * (M 75 10)) + i)))]) (st' := [yi 1, yi (n - 1), yr 88]) (M' := M) (N' := N) rfl ?_
              refine r_top (b := if M 88 (n - 1) = 0 then 1 else 0) (by rw [if_pos (by omega)]) ?_
              refine r_iast (n := 200) f_134_130 (by decide) (by decide) (by decide) (by omega) ?_
              refine r_run 3 (pc' := 16) (ls' := [some (yr 75), some (yi p), some (yi n), some (yi (i + 1)), some (yi (M 79 ((200 * (M 75 10)) + i)))]) (st' := []) (M' := (yu M 88 (n - 1) (if M 88 (n - 1) = 0 then 1 else 0))) (N' := N) rfl ?_
              have hc1 : C i = 13 := by omega
              rw [evR_b hc1, yu_row]
              refine r_post (ih (by omega) (by omega) (by omega) (by omega) hD.2 (by rw [yrow_ne (by omega)]; exact ht) (by rw [yrow_ne (by omega)]; exact hA) (by rw [yrow_ne (by omega)]; exact hE) (by rw [yrow_ne (by omega)]; exact hV) ?_) ?_
              · rw [yrow_at]
                intro x x0 x1
                unfold up
                split
                · (repeat' split) <;> omega
                · exact hR x x0 (by omega)
              rintro _ M' _ ⟨rfl, hfr, rfl⟩
              rw [yrow_at]
              exact ⟨rfl, fun c hc => by rw [hfr c hc, yrow_ne hc], rfl⟩
        · refine r_run 5 (pc' := 75) (ls' := [some (yr 75), some (yi p), some (yi n), some (yi i), some (yi (M 79 ((200 * (M 75 10)) + i)))]) (st' := [yi 11, yi (M 79 ((200 * (M 75 10)) + i)), yi n, yr 88]) (M' := M) (N' := N) rfl ?_
          refine r_icmp_ge (pc := 75) f_134_75 (by omega) (by omega) (fun h75 => ?_) (fun h75 => ?_)
          · refine r_run 3 (pc' := 93) (ls' := [some (yr 75), some (yi p), some (yi n), some (yi i), some (yi (M 79 ((200 * (M 75 10)) + i)))]) (st' := [yi ((M 79 ((200 * (M 75 10)) + i)) - 100000), yi n, yr 88]) (M' := M) (N' := N) rfl ?_
            refine r_iast (n := 200) f_134_93 (by decide) (by decide) (by decide) (by omega) ?_
            refine r_run 4 (pc' := 16) (ls' := [some (yr 75), some (yi p), some (yi (n + 1)), some (yi (i + 1)), some (yi (M 79 ((200 * (M 75 10)) + i)))]) (st' := []) (M' := (yu M 88 n ((M 79 ((200 * (M 75 10)) + i)) - 100000))) (N' := N) rfl ?_
            exfalso; omega
          · refine r_run 3 (pc' := 84) (ls' := [some (yr 75), some (yi p), some (yi n), some (yi i), some (yi (M 79 ((200 * (M 75 10)) + i)))]) (st' := [yi (M 79 ((200 * (M 75 10)) + i)), yr 89, yi n, yr 88]) (M' := M) (N' := N) rfl ?_
            refine r_iald (n := 6) f_134_84 (by decide) (by decide) (by decide) (by omega) ?_
            refine r_run 1 (pc' := 93) (ls' := [some (yr 75), some (yi p), some (yi n), some (yi i), some (yi (M 79 ((200 * (M 75 10)) + i)))]) (st' := [yi (M 89 (M 79 ((200 * (M 75 10)) + i))), yi n, yr 88]) (M' := M) (N' := N) rfl ?_
            refine r_iast (n := 200) f_134_93 (by decide) (by decide) (by decide) (by omega) ?_
            refine r_run 4 (pc' := 16) (ls' := [some (yr 75), some (yi p), some (yi (n + 1)), some (yi (i + 1)), some (yi (M 79 ((200 * (M 75 10)) + i)))]) (st' := []) (M' := (yu M 88 n (M 89 (M 79 ((200 * (M 75 10)) + i))))) (N' := N) rfl ?_
            have hc1 : C i < 11 ∨ 100000 ≤ C i := by omega
            unfold tDp at hD
            rw [if_pos hc1] at hD
            have ev : M 89 (M 79 (200 * M 75 10 + i)) = (if C i < 11 then nm (C i) else C i - 100000) := by
              rw [if_pos (by omega), hCe, hV]
            rw [evR_a hc1, yu_row, ev]
            refine r_post (ih (by omega) (by omega) (by omega) (by omega) hD (by rw [yrow_ne (by omega)]; exact ht) (by rw [yrow_ne (by omega)]; exact hA) (by rw [yrow_ne (by omega)]; exact hE) (by rw [yrow_ne (by omega)]; exact hV) ?_) ?_
            · rw [yrow_at]
              intro x x0 x1
              unfold up
              split
              · split
                · exact hN _ ⟨by omega, by omega⟩
                · omega
              · exact hR x x0 (by omega)
            rintro _ M' _ ⟨rfl, hfr, rfl⟩
            rw [yrow_at]
            exact ⟨rfl, fun c hc => by rw [hfr c hc, yrow_ne hc], rfl⟩
theorem m_says {S : XS} {M N : YM} {p : Int} {C T : Int → Int} (ht : 0 ≤ M 75 10 ∧ M 75 10 < 6) (hp : 0 ≤ p ∧ p < 3) (hTp : M 80 (4 * M 75 10 + p) = T p) (hE1 : ∀ p, 0 ≤ p → p < 3 → M 80 (4 * M 75 10 + p + 1) = T (p + 1)) (qb : 0 ≤ T p ∧ T p ≤ T (p + 1) ∧ T (p + 1) ≤ 160 ∧ T (p + 1) ≤ T 3) (hC : ∀ k, 0 ≤ k → k < T 3 → M 79 (200 * M 75 10 + k) = C k ∧ tVal (C k)) (hD : tDp C (T (p + 1) - T p).toNat (T p) 0 1) (hN : ∀ q, in6 q → -2147483648 ≤ M 89 q ∧ M 89 q < 2147483648) : rm S 3 134 [yr 75, yi p] M N (fun r M' N' => ∃ v : Int, some (yi v) = r ∧ (v = evT C (M 89) (T (p + 1) - T p).toNat (T p) ∧ ∀ c, c ≠ 88 → M' c = M c) ∧ N = N') := by
  refine ⟨xe_134, m_134, Nat.le_of_ble_eq_true rfl, ?_⟩
  refine r_run 10 (pc' := 14) (ls' := [some (yr 75), some (yi p), some (yi 0), none, none]) (st' := [yi ((4 * (M 75 10)) + p), yr 80]) (M' := M) (N' := N) rfl ?_
  refine r_iald (n := 24) f_134_14 (by decide) (by decide) (by decide) (by omega) ?_
  refine r_run 1 (pc' := 16) (ls' := [some (yr 75), some (yi p), some (yi 0), some (yi (M 80 ((4 * (M 75 10)) + p))), none]) (st' := []) (M' := M) (N' := N) rfl ?_
  refine r_loc 3 (b := T p) rfl hTp ?_
  refine r_post (m_says_l (j := (T (p + 1) - T p).toNat) (C := C) (t := M 75 10) (A := M 79) (E := M 80) (nm := M 89) (e := T (p + 1)) (Nat.le_refl _) ht hp (hE1 p hp.1 hp.2) qb.2.2.1 (fun k k0 k1 => hC k k0 (by omega)) hN qb.1 (by omega) (Int.le_refl 0) qb.1 hD rfl rfl rfl rfl (fun x x0 x1 => by omega)) ?_
  rintro _ M' _ ⟨rfl, hfr, rfl⟩
  refine ⟨_, rfl, ⟨?_, hfr⟩, rfl⟩
  exact evR_congr (fun _ _ _ => rfl) (fun _ _ _ _ => rfl) (Int.le_refl 0) hD (fun i i0 i1 => by omega)
/-- text t tells, part p, of numbers nm -/
def txT (M : YM) (t p : Int) (nm : Int → Int) : Int := evT (fun k => M 79 (200 * t + k)) nm (M 80 (4 * t + (p + 1)) - M 80 (4 * t + p)).toNat (M 80 (4 * t + p))
theorem RT.parts {M : YM} (h : RT M M) {t : Int} (ht : 0 ≤ t ∧ t < M 75 9) {p : Int} (hp : 0 ≤ p ∧ p < 3) : tDp (fun k => M 79 (200 * t + k)) (M 80 (4 * t + (p + 1)) - M 80 (4 * t + p)).toNat (M 80 (4 * t + p)) 0 1 ∧ 0 ≤ M 80 (4 * t + p) ∧ M 80 (4 * t + p) ≤ M 80 (4 * t + (p + 1)) ∧ M 80 (4 * t + (p + 1)) ≤ 160 ∧ M 80 (4 * t + (p + 1)) ≤ M 80 (4 * t + 3) := by
  obtain ⟨q0, q, -⟩ := h.2.2.2.2 t ht.1 ht.2
  have q1 := q 0 (by omega) (by omega)
  have q2 := q 1 (by omega) (by omega)
  have q3 := q 2 (by omega) (by omega)
  rw [show (0 : Int) + 1 = 1 from rfl] at q1
  rw [show (1 : Int) + 1 = 2 from rfl] at q2
  rw [show (2 : Int) + 1 = 3 from rfl] at q3
  dsimp only at q0 q1 q2 q3
  refine ⟨(q p hp.1 hp.2).2.2.2, ?_⟩
  rcases (show p = 0 ∨ p = 1 ∨ p = 2 by omega) with rfl | rfl | rfl
  · rw [show (0 : Int) + 1 = 1 from rfl]; omega
  · rw [show (1 : Int) + 1 = 2 from rfl]; omega
  · rw [show (2 : Int) + 1 = 3 from rfl]; omega
theorem txT_in {M : YM} (h : RT M M) {t : Int} (ht : 0 ≤ t ∧ t < M 75 9) {p : Int} (hp : 0 ≤ p ∧ p < 3) {nm : Int → Int} (hN : ∀ q, in6 q → -2147483648 ≤ nm q ∧ nm q < 2147483648) : -2147483648 ≤ txT M t p nm ∧ txT M t p nm < 2147483648 := by
  have q := h.parts ht hp
  obtain ⟨-, -, g, -⟩ := h.2.2.2.2 t ht.1 ht.2
  have g' : ∀ k, 0 ≤ k → k < M 80 (4 * t + 3) → tVal (M 79 (200 * t + k)) := fun k k0 k1 => (g k k0 k1).2
  exact evR_in (fun i i0 i1 => g' i (by omega) (by omega)) hN (Int.le_refl 0) q.1 (fun i i0 i1 => by omega)
theorem txT_congr {M : YM} (h : RT M M) {t : Int} (ht : 0 ≤ t ∧ t < M 75 9) {p : Int} (hp : 0 ≤ p ∧ p < 3) {nm nm' : Int → Int} (hN : ∀ q, in6 q → nm q = nm' q) : txT M t p nm = txT M t p nm' := by
  have q := h.parts ht hp
  obtain ⟨-, -, g, -⟩ := h.2.2.2.2 t ht.1 ht.2
  have g' : ∀ k, 0 ≤ k → k < M 80 (4 * t + 3) → tVal (M 79 (200 * t + k)) := fun k k0 k1 => (g k k0 k1).2
  refine evR_congr (fun _ _ _ => rfl) (fun i i0 i1 i2 => hN _ ?_) (Int.le_refl 0) q.1 (fun i i0 i1 => by omega)
  have := g' i (by omega) (by omega)
  exact ⟨by omega, by omega⟩
def eqx (M M' : YM) : Prop := M' 79 = M 79 ∧ M' 80 = M 80
theorem eqx.eT {M M' : YM} (h : eqx M M') : txT M' = txT M := by
  funext t p nm
  unfold txT
  rw [h.1, h.2]
theorem eqn.eqx {A B : YM} (h : eqn A B) : eqx A B := ⟨funext fun k => h 79 k (by unfold sc; omega), funext fun k => h 80 k (by unfold sc; omega)⟩
theorem c_tellR1 {S : XS} {M N : YM} {t p : Int} (R : RT M M) (ht : 0 ≤ t ∧ t < M 75 9) (hp : 0 ≤ p ∧ p < 3) (hN : ∀ q, in6 q → -2147483648 ≤ M 39 q ∧ M 39 q < 2147483648) : rm S 3 46 [yr (49 + 3 * t), yi p, yr 39, yr 40] M N (fun r M' N' => ∃ v : Int, some (yi v) = r ∧ (v = txT M t p (M 39) ∧ ∀ c, c ≠ 40 → M' c = M c) ∧ N = N') :=
  c_tellR ⟨ht.1, by have := R.2.1; omega⟩ hp (R.2.2.2.2 t ht.1 ht.2) hN
theorem c_tellS1 {S : XS} {M N : YM} {s t p : Int} (hs : 0 ≤ s ∧ s < 4) (R : RT M M) (ht : 0 ≤ t ∧ t < M 75 9) (hp : 0 ≤ p ∧ p < 3) (hN : ∀ q, in6 q → -2147483648 ≤ M (68 + 2 * s) q ∧ M (68 + 2 * s) q < 2147483648) : rm S 3 46 [yr (49 + 3 * t), yi p, yr (68 + 2 * s), yr 40] M N (fun r M' N' => ∃ v : Int, some (yi v) = r ∧ (v = txT M t p (M (68 + 2 * s)) ∧ ∀ c, c ≠ 40 → M' c = M c) ∧ N = N') :=
  c_tellS hs ⟨ht.1, by have := R.2.1; omega⟩ hp (R.2.2.2.2 t ht.1 ht.2) hN
/-- the reference's rule may be any text -/
theorem m_says1 {S : XS} {M N : YM} {p : Int} (R : ∀ t, 0 ≤ t → t < M 75 9 → tRel (M (49 + 3 * t) 3) (M (50 + 3 * t)) (M (51 + 3 * t)) (fun k => M 79 (200 * t + k)) (fun p => M 80 (4 * t + p))) (h9 : M 75 9 ≤ 6) (ht : 0 ≤ M 75 10 ∧ M 75 10 < M 75 9) (hp : 0 ≤ p ∧ p < 3) (hN : ∀ q, in6 q → -2147483648 ≤ M 89 q ∧ M 89 q < 2147483648) : rm S 3 134 [yr 75, yi p] M N (fun r M' N' => ∃ v : Int, some (yi v) = r ∧ (v = txT M (M 75 10) p (M 89) ∧ ∀ c, c ≠ 88 → M' c = M c) ∧ N = N') := by
  obtain ⟨q0, q, g, -⟩ := R (M 75 10) ht.1 ht.2
  have q1 := q 0 (by omega) (by omega)
  have q2 := q 1 (by omega) (by omega)
  have q3 := q 2 (by omega) (by omega)
  rw [show (0 : Int) + 1 = 1 from rfl] at q1
  rw [show (1 : Int) + 1 = 2 from rfl] at q2
  rw [show (2 : Int) + 1 = 3 from rfl] at q3
  dsimp only at q0 q1 q2 q3
  refine m_says (C := fun k => M 79 (200 * M 75 10 + k)) (T := fun p => M 80 (4 * M 75 10 + p)) ⟨ht.1, by omega⟩ hp rfl (fun p _ _ => by rw [show 4 * M 75 10 + p + 1 = 4 * M 75 10 + (p + 1) by omega]) ?_ (fun k k0 k1 => ⟨rfl, (g k k0 k1).2⟩) (q p hp.1 hp.2).2.2.2 hN
  rcases (show p = 0 ∨ p = 1 ∨ p = 2 by omega) with rfl | rfl | rfl
  · rw [show (0 : Int) + 1 = 1 from rfl]; omega
  · rw [show (1 : Int) + 1 = 2 from rfl]; omega
  · rw [show (2 : Int) + 1 = 3 from rfl]; omega
theorem yu_rn {M : YM} {c k v c' : Int} (h : c' ≠ c) : yu M c k v c' = M c' := funext fun k' => yu_ne (Or.inl h)
theorem m_saysBy {S : XS} {M N : YM} {t p : Int} (R : RT M M) (ht : 0 ≤ t ∧ t < M 75 9) (hp : 0 ≤ p ∧ p < 3) (hN : ∀ q, in6 q → -2147483648 ≤ M 89 q ∧ M 89 q < 2147483648) : rm S 4 158 [yr 75, yi t, yi p] M N (fun r M' N' => ∃ v : Int, some (yi v) = r ∧ (v = txT M t p (M 89) ∧ ∀ c, c ≠ 88 → M' c = M c) ∧ N = N') := by
  refine ⟨xe_158, m_158, Nat.le_of_ble_eq_true rfl, ?_⟩
  refine r_run 8 (pc' := 12) (ls' := [some (yr 75), some (yi t), some (yi p), some (yi (M 75 10)), none]) (st' := [yi p, yr 75]) (M' := (yu M 75 10 t)) (N' := N) rfl ?_
  refine r_virtual (mj := 134) (b := 75) (as := [yi p]) (rest := []) f_158_12 (by decide) rfl m_134 (by decide) (by decide) (by decide) rfl rfl (Nat.le_of_ble_eq_true rfl) (by omega) (m_says1 (by rw [yu_ne (by omega)]; intro t t0 t1; have r6 := R.2.1; rw [yu_rn (show (79 : Int) ≠ 75 by decide), yu_rn (show (80 : Int) ≠ 75 by decide), yu_rn (show 49 + 3 * t ≠ 75 by omega), yu_rn (show 50 + 3 * t ≠ 75 by omega), yu_rn (show 51 + 3 * t ≠ 75 by omega)]; exact R.2.2.2.2 t t0 t1) (by rw [yu_ne (by omega)]; exact R.2.1.2) (by rw [yu_at, yu_ne (by omega)]; exact ht) hp (by rw [yu_rn (show (89 : Int) ≠ 75 by decide)]; exact hN)) ?_
  rintro _ M2 _ ⟨v, rfl, ⟨hv, hfr⟩, rfl⟩
  refine r_run 5 (pc' := 24) (ls' := [some (yr 75), some (yi t), some (yi p), some (yi (M 75 10)), some (yi v)]) (st' := [yi v]) (M' := (yu M2 75 10 (M 75 10))) (N' := N) rfl ?_
  refine r_iret m_158 rfl f_158_24 ?_
  refine ⟨v, rfl, ⟨?_, fun c hc => ?_⟩, rfl⟩
  · rw [hv, yu_at, yu_rn (show (89 : Int) ≠ 75 by decide)]
    exact congrFun (congrFun (congrFun (eqx.eT ⟨yu_rn (by decide), yu_rn (by decide)⟩) _) _) _
  · rw [yu_row, hfr 75 (by decide)]
    by_cases h : c = 75
    · rw [h, yrow_at, yu_row, yrow_at, up_up, up_self]
    · rw [yrow_ne h, hfr c hc, yu_rn h]
