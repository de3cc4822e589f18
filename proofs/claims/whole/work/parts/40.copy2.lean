theorem m_copy_loop {S : XS} {d : Nat} {s i o j n a b : Int} {M N : YM} (hn : 0 ≤ n ∧ n ≤ 40) (ha : 0 ≤ a ∧ a + n ≤ 160) (hb : 0 ≤ b ∧ b + n ≤ 160) {q : Nat} : ∀ {k : Int} {l9 : Option YV}, 0 ≤ k → k + q = n → ry S d 188 147 [some (yr 75), some (yi s), some (yi i), some (yi o), some (yi j), some (yi n), some (yi a), some (yi b), some (yi k), l9] [] (ypart M 84 a b n k) N (fun r M' N' => some (yi n) = r ∧ ycopy M 84 84 a b n = M' ∧ N = N') := by
  induction q with
  | zero =>
    intro k l9 h0 h1
    refine r_run 2 (pc' := 151) (ls' := [some (yr 75), some (yi s), some (yi i), some (yi o), some (yi j), some (yi n), some (yi a), some (yi b), some (yi k), l9]) (st' := [yi n, yi k]) (M' := (ypart M 84 a b n k)) (N' := N) rfl ?_
    refine r_icmp_ge (pc := 151) f_188_151 (by omega) (by omega) (fun h151 => ?_) (fun h151 => ?_)
    · refine r_run 1 (pc' := 203) (ls' := [some (yr 75), some (yi s), some (yi i), some (yi o), some (yi j), some (yi n), some (yi a), some (yi b), some (yi k), l9]) (st' := [yi n]) (M' := (ypart M 84 a b n k)) (N' := N) rfl ?_
      refine r_iret m_188 rfl f_188_203 ?_
      have hk : k = n := by omega
      rw [hk, ypart_all]
      exact ⟨rfl, rfl, rfl⟩
    · refine r_run 2 (pc' := 158) (ls' := [some (yr 75), some (yi s), some (yi i), some (yi o), some (yi j), some (yi n), some (yi a), some (yi b), some (yi k), l9]) (st' := [yi b, yi a]) (M' := (ypart M 84 a b n k)) (N' := N) rfl ?_
      refine r_icmp_ge (pc := 158) f_188_158 (by omega) (by omega) (fun h158 => ?_) (fun h158 => ?_)
      · refine r_run 12 (pc' := 193) (ls' := [some (yr 75), some (yi s), some (yi i), some (yi o), some (yi j), some (yi n), some (yi a), some (yi b), some (yi k), some (yi k)]) (st' := [yi (a + k), yr 84, yi (b + k), yr 84]) (M' := (ypart M 84 a b n k)) (N' := N) rfl ?_
        refine r_iald (n := 160) f_188_193 (by decide) (by decide) (by decide) (by omega) ?_
        refine r_iast (n := 160) f_188_194 (by decide) (by decide) (by decide) (by omega) ?_
        refine r_run 2 (pc' := 147) (ls' := [some (yr 75), some (yi s), some (yi i), some (yi o), some (yi j), some (yi n), some (yi a), some (yi b), some (yi (k + 1)), some (yi k)]) (st' := []) (M' := (yu (ypart M 84 a b n k) 84 (b + k) ((ypart M 84 a b n k) 84 (a + k)))) (N' := N) rfl ?_
        rw [ypart_fore (by omega) (by omega) (by omega)]
        exact absurd h1 (by omega)
      · refine r_run 17 (pc' := 193) (ls' := [some (yr 75), some (yi s), some (yi i), some (yi o), some (yi j), some (yi n), some (yi a), some (yi b), some (yi k), some (yi ((n - 1) - k))]) (st' := [yi (a + ((n - 1) - k)), yr 84, yi (b + ((n - 1) - k)), yr 84]) (M' := (ypart M 84 a b n k)) (N' := N) rfl ?_
        refine r_iald (n := 160) f_188_193 (by decide) (by decide) (by decide) (by omega) ?_
        refine r_iast (n := 160) f_188_194 (by decide) (by decide) (by decide) (by omega) ?_
        refine r_run 2 (pc' := 147) (ls' := [some (yr 75), some (yi s), some (yi i), some (yi o), some (yi j), some (yi n), some (yi a), some (yi b), some (yi (k + 1)), some (yi ((n - 1) - k))]) (st' := []) (M' := (yu (ypart M 84 a b n k) 84 (b + ((n - 1) - k)) ((ypart M 84 a b n k) 84 (a + ((n - 1) - k))))) (N' := N) rfl ?_
        rw [ypart_back (by omega) (by omega) (by omega)]
        exact absurd h1 (by omega)
  | succ q ih =>
    intro k l9 h0 h1
    refine r_run 2 (pc' := 151) (ls' := [some (yr 75), some (yi s), some (yi i), some (yi o), some (yi j), some (yi n), some (yi a), some (yi b), some (yi k), l9]) (st' := [yi n, yi k]) (M' := (ypart M 84 a b n k)) (N' := N) rfl ?_
    refine r_icmp_ge (pc := 151) f_188_151 (by omega) (by omega) (fun h151 => ?_) (fun h151 => ?_)
    · refine r_run 1 (pc' := 203) (ls' := [some (yr 75), some (yi s), some (yi i), some (yi o), some (yi j), some (yi n), some (yi a), some (yi b), some (yi k), l9]) (st' := [yi n]) (M' := (ypart M 84 a b n k)) (N' := N) rfl ?_
      refine r_iret m_188 rfl f_188_203 ?_
      have hk : k = n := by omega
      rw [hk, ypart_all]
      exact ⟨rfl, rfl, rfl⟩
    · refine r_run 2 (pc' := 158) (ls' := [some (yr 75), some (yi s), some (yi i), some (yi o), some (yi j), some (yi n), some (yi a), some (yi b), some (yi k), l9]) (st' := [yi b, yi a]) (M' := (ypart M 84 a b n k)) (N' := N) rfl ?_
      refine r_icmp_ge (pc := 158) f_188_158 (by omega) (by omega) (fun h158 => ?_) (fun h158 => ?_)
      · refine r_run 12 (pc' := 193) (ls' := [some (yr 75), some (yi s), some (yi i), some (yi o), some (yi j), some (yi n), some (yi a), some (yi b), some (yi k), some (yi k)]) (st' := [yi (a + k), yr 84, yi (b + k), yr 84]) (M' := (ypart M 84 a b n k)) (N' := N) rfl ?_
        refine r_iald (n := 160) f_188_193 (by decide) (by decide) (by decide) (by omega) ?_
        refine r_iast (n := 160) f_188_194 (by decide) (by decide) (by decide) (by omega) ?_
        refine r_run 2 (pc' := 147) (ls' := [some (yr 75), some (yi s), some (yi i), some (yi o), some (yi j), some (yi n), some (yi a), some (yi b), some (yi (k + 1)), some (yi k)]) (st' := []) (M' := (yu (ypart M 84 a b n k) 84 (b + k) ((ypart M 84 a b n k) 84 (a + k)))) (N' := N) rfl ?_
        rw [ypart_fore (by omega) (by omega) (by omega)]
        exact ih (l9 := some (yi k)) (by omega) (by omega)
      · refine r_run 17 (pc' := 193) (ls' := [some (yr 75), some (yi s), some (yi i), some (yi o), some (yi j), some (yi n), some (yi a), some (yi b), some (yi k), some (yi ((n - 1) - k))]) (st' := [yi (a + ((n - 1) - k)), yr 84, yi (b + ((n - 1) - k)), yr 84]) (M' := (ypart M 84 a b n k)) (N' := N) rfl ?_
        refine r_iald (n := 160) f_188_193 (by decide) (by decide) (by decide) (by omega) ?_
        refine r_iast (n := 160) f_188_194 (by decide) (by decide) (by decide) (by omega) ?_
        refine r_run 2 (pc' := 147) (ls' := [some (yr 75), some (yi s), some (yi i), some (yi o), some (yi j), some (yi n), some (yi a), some (yi b), some (yi (k + 1)), some (yi ((n - 1) - k))]) (st' := []) (M' := (yu (ypart M 84 a b n k) 84 (b + ((n - 1) - k)) ((ypart M 84 a b n k) 84 (a + ((n - 1) - k))))) (N' := N) rfl ?_
        rw [ypart_back (by omega) (by omega) (by omega)]
        exact ih (l9 := some (yi (n - 1 - k))) (by omega) (by omega)
theorem m_copy {S : XS} {M N : YM} {s i o j n : Int} (hE : ∀ s : Int, 0 ≤ s → s < 4 → (-1 ≤ M 82 s ∧ M 82 s ≤ 2) ∧ (0 ≤ M 83 s ∧ M 83 s ≤ 40)) (hs : -2147483648 ≤ s ∧ s < 2147483648) (hi : -2147483648 ≤ i ∧ i < 2147483648) (ho : -2147483648 ≤ o ∧ o < 2147483648) (hj : -2147483648 ≤ j ∧ j < 2147483648) (hn : -2147483648 ≤ n ∧ n < 2147483648) : rm S 1 188 [yr 75, yi s, yi i, yi o, yi j, yi n] M N (fun r M' N' => ∃ v' : Int, some (yi v') = r ∧ (v' = (if s < 0 ∨ 3 < s ∨ o < 0 ∨ 3 < o then -2 else if M 82 s = -1 ∨ M 82 o = -1 then -11 else if M 82 s ≠ M 82 o then -13 else if n < 0 ∨ M 83 s < n ∨ i < 0 ∨ M 83 s - n < i ∨ M 83 o < n ∨ j < 0 ∨ M 83 o - n < j then -12 else n) ∧ (if 0 ≤ v' then ycopy M 84 84 (40 * s + i) (40 * o + j) n else M) = M') ∧ N = N') := by
  refine ⟨xe_188, m_188, Nat.le_of_ble_eq_true rfl, ?_⟩
  have hEs := hE s
  have hEo := hE o
  refine r_run 3 (pc' := 3) (ls' := [some (yr 75), some (yi s), some (yi i), some (yi o), some (yi j), some (yi n), none, none, none, none]) (st' := [yi 3, yi 0, yi s]) (M' := M) (N' := N) rfl ?_
  refine r_static (mj := 112) (as := [yi s, yi 0, yi 3]) (rest := []) f_188_3 (by decide) rfl m_112 rfl rfl rfl (Nat.le_of_ble_eq_true rfl) (by omega) (m_in (by omega) (by omega) (by omega)) ?_
  rintro _ _ _ ⟨v3, rfl, hv3, rfl, rfl⟩
  refine r_if_eq (pc := 6) f_188_6 (by omega) (fun h6 => ?_) (fun h6 => ?_)
  · refine r_run 1 (pc' := 20) (ls' := [some (yr 75), some (yi s), some (yi i), some (yi o), some (yi j), some (yi n), none, none, none, none]) (st' := [yi (-2)]) (M' := M) (N' := N) rfl ?_
    refine r_iret m_188 rfl f_188_20 ?_
    exact ⟨_, rfl, ⟨by rw [if_pos (by omega)], by rw [if_neg (by omega)]⟩, rfl⟩
  · refine r_run 3 (pc' := 12) (ls' := [some (yr 75), some (yi s), some (yi i), some (yi o), some (yi j), some (yi n), none, none, none, none]) (st' := [yi 3, yi 0, yi o]) (M' := M) (N' := N) rfl ?_
    refine r_static (mj := 112) (as := [yi o, yi 0, yi 3]) (rest := []) f_188_12 (by decide) rfl m_112 rfl rfl rfl (Nat.le_of_ble_eq_true rfl) (by omega) (m_in (by omega) (by omega) (by omega)) ?_
    rintro _ _ _ ⟨v12, rfl, hv12, rfl, rfl⟩
    refine r_if_ne (pc := 15) f_188_15 (by omega) (fun h15 => ?_) (fun h15 => ?_)
    · refine r_run 3 (pc' := 26) (ls' := [some (yr 75), some (yi s), some (yi i), some (yi o), some (yi j), some (yi n), none, none, none, none]) (st' := [yi s, yr 82]) (M' := M) (N' := N) rfl ?_
      refine r_iald (n := 4) f_188_26 (by decide) (by decide) (by decide) (by omega) ?_
      refine r_run 1 (pc' := 28) (ls' := [some (yr 75), some (yi s), some (yi i), some (yi o), some (yi j), some (yi n), none, none, none, none]) (st' := [yi (-1), yi (M 82 s)]) (M' := M) (N' := N) rfl ?_
      refine r_icmp_eq (pc := 28) f_188_28 (by omega) (by omega) (fun h28 => ?_) (fun h28 => ?_)
      · refine r_run 1 (pc' := 43) (ls' := [some (yr 75), some (yi s), some (yi i), some (yi o), some (yi j), some (yi n), none, none, none, none]) (st' := [yi (-11)]) (M' := M) (N' := N) rfl ?_
        refine r_iret m_188 rfl f_188_43 ?_
        exact ⟨_, rfl, ⟨by rw [if_neg (by omega), if_pos (by omega)], by rw [if_neg (by omega)]⟩, rfl⟩
      · refine r_run 3 (pc' := 36) (ls' := [some (yr 75), some (yi s), some (yi i), some (yi o), some (yi j), some (yi n), none, none, none, none]) (st' := [yi o, yr 82]) (M' := M) (N' := N) rfl ?_
        refine r_iald (n := 4) f_188_36 (by decide) (by decide) (by decide) (by omega) ?_
        refine r_run 1 (pc' := 38) (ls' := [some (yr 75), some (yi s), some (yi i), some (yi o), some (yi j), some (yi n), none, none, none, none]) (st' := [yi (-1), yi (M 82 o)]) (M' := M) (N' := N) rfl ?_
        refine r_icmp_ne (pc := 38) f_188_38 (by omega) (by omega) (fun h38 => ?_) (fun h38 => ?_)
        · refine r_run 3 (pc' := 49) (ls' := [some (yr 75), some (yi s), some (yi i), some (yi o), some (yi j), some (yi n), none, none, none, none]) (st' := [yi s, yr 82]) (M' := M) (N' := N) rfl ?_
          refine r_iald (n := 4) f_188_49 (by decide) (by decide) (by decide) (by omega) ?_
          refine r_run 3 (pc' := 55) (ls' := [some (yr 75), some (yi s), some (yi i), some (yi o), some (yi j), some (yi n), none, none, none, none]) (st' := [yi o, yr 82, yi (M 82 s)]) (M' := M) (N' := N) rfl ?_
          refine r_iald (n := 4) f_188_55 (by decide) (by decide) (by decide) (by omega) ?_
          refine r_icmp_eq (pc := 56) f_188_56 (by omega) (by omega) (fun h56 => ?_) (fun h56 => ?_)
          · refine r_run 1 (pc' := 64) (ls' := [some (yr 75), some (yi s), some (yi i), some (yi o), some (yi j), some (yi n), none, none, none, none]) (st' := [yi n]) (M' := M) (N' := N) rfl ?_
            refine r_if_lt (pc := 64) f_188_64 (by omega) (fun h64 => ?_) (fun h64 => ?_)
            · refine r_run 1 (pc' := 126) (ls' := [some (yr 75), some (yi s), some (yi i), some (yi o), some (yi j), some (yi n), none, none, none, none]) (st' := [yi (-12)]) (M' := M) (N' := N) rfl ?_
              refine r_iret m_188 rfl f_188_126 ?_
              exact ⟨_, rfl, ⟨by rw [if_neg (by omega), if_neg (by omega), if_neg (by omega), if_pos (by omega)], by rw [if_neg (by omega)]⟩, rfl⟩
            · refine r_run 1 (pc' := 68) (ls' := [some (yr 75), some (yi s), some (yi i), some (yi o), some (yi j), some (yi n), none, none, none, none]) (st' := [yi i]) (M' := M) (N' := N) rfl ?_
              refine r_if_lt (pc := 68) f_188_68 (by omega) (fun h68 => ?_) (fun h68 => ?_)
              · refine r_run 1 (pc' := 126) (ls' := [some (yr 75), some (yi s), some (yi i), some (yi o), some (yi j), some (yi n), none, none, none, none]) (st' := [yi (-12)]) (M' := M) (N' := N) rfl ?_
                refine r_iret m_188 rfl f_188_126 ?_
                exact ⟨_, rfl, ⟨by rw [if_neg (by omega), if_neg (by omega), if_neg (by omega), if_pos (by omega)], by rw [if_neg (by omega)]⟩, rfl⟩
              · refine r_run 1 (pc' := 73) (ls' := [some (yr 75), some (yi s), some (yi i), some (yi o), some (yi j), some (yi n), none, none, none, none]) (st' := [yi j]) (M' := M) (N' := N) rfl ?_
                refine r_if_lt (pc := 73) f_188_73 (by omega) (fun h73 => ?_) (fun h73 => ?_)
                · refine r_run 1 (pc' := 126) (ls' := [some (yr 75), some (yi s), some (yi i), some (yi o), some (yi j), some (yi n), none, none, none, none]) (st' := [yi (-12)]) (M' := M) (N' := N) rfl ?_
                  refine r_iret m_188 rfl f_188_126 ?_
                  exact ⟨_, rfl, ⟨by rw [if_neg (by omega), if_neg (by omega), if_neg (by omega), if_pos (by omega)], by rw [if_neg (by omega)]⟩, rfl⟩
                · refine r_run 4 (pc' := 82) (ls' := [some (yr 75), some (yi s), some (yi i), some (yi o), some (yi j), some (yi n), none, none, none, none]) (st' := [yi s, yr 83, yi i]) (M' := M) (N' := N) rfl ?_
                  refine r_iald (n := 4) f_188_82 (by decide) (by decide) (by decide) (by omega) ?_
                  refine r_icmp_gt (pc := 83) f_188_83 (by omega) (by omega) (fun h83 => ?_) (fun h83 => ?_)
                  · refine r_run 1 (pc' := 126) (ls' := [some (yr 75), some (yi s), some (yi i), some (yi o), some (yi j), some (yi n), none, none, none, none]) (st' := [yi (-12)]) (M' := M) (N' := N) rfl ?_
                    refine r_iret m_188 rfl f_188_126 ?_
                    exact ⟨_, rfl, ⟨by rw [if_neg (by omega), if_neg (by omega), if_neg (by omega), if_pos (by omega)], by rw [if_neg (by omega)]⟩, rfl⟩
                  · refine r_run 4 (pc' := 93) (ls' := [some (yr 75), some (yi s), some (yi i), some (yi o), some (yi j), some (yi n), none, none, none, none]) (st' := [yi o, yr 83, yi j]) (M' := M) (N' := N) rfl ?_
                    refine r_iald (n := 4) f_188_93 (by decide) (by decide) (by decide) (by omega) ?_
                    refine r_icmp_gt (pc := 94) f_188_94 (by omega) (by omega) (fun h94 => ?_) (fun h94 => ?_)
                    · refine r_run 1 (pc' := 126) (ls' := [some (yr 75), some (yi s), some (yi i), some (yi o), some (yi j), some (yi n), none, none, none, none]) (st' := [yi (-12)]) (M' := M) (N' := N) rfl ?_
                      refine r_iret m_188 rfl f_188_126 ?_
                      exact ⟨_, rfl, ⟨by rw [if_neg (by omega), if_neg (by omega), if_neg (by omega), if_pos (by omega)], by rw [if_neg (by omega)]⟩, rfl⟩
                    · refine r_run 4 (pc' := 104) (ls' := [some (yr 75), some (yi s), some (yi i), some (yi o), some (yi j), some (yi n), none, none, none, none]) (st' := [yi s, yr 83, yi n]) (M' := M) (N' := N) rfl ?_
                      refine r_iald (n := 4) f_188_104 (by decide) (by decide) (by decide) (by omega) ?_
                      refine r_run 2 (pc' := 107) (ls' := [some (yr 75), some (yi s), some (yi i), some (yi o), some (yi j), some (yi n), none, none, none, none]) (st' := [yi ((M 83 s) - i), yi n]) (M' := M) (N' := N) rfl ?_
                      refine r_icmp_gt (pc := 107) f_188_107 (by omega) (by omega) (fun h107 => ?_) (fun h107 => ?_)
                      · refine r_run 1 (pc' := 126) (ls' := [some (yr 75), some (yi s), some (yi i), some (yi o), some (yi j), some (yi n), none, none, none, none]) (st' := [yi (-12)]) (M' := M) (N' := N) rfl ?_
                        refine r_iret m_188 rfl f_188_126 ?_
                        exact ⟨_, rfl, ⟨by rw [if_neg (by omega), if_neg (by omega), if_neg (by omega), if_pos (by omega)], by rw [if_neg (by omega)]⟩, rfl⟩
                      · refine r_run 4 (pc' := 117) (ls' := [some (yr 75), some (yi s), some (yi i), some (yi o), some (yi j), some (yi n), none, none, none, none]) (st' := [yi o, yr 83, yi n]) (M' := M) (N' := N) rfl ?_
                        refine r_iald (n := 4) f_188_117 (by decide) (by decide) (by decide) (by omega) ?_
                        refine r_run 2 (pc' := 121) (ls' := [some (yr 75), some (yi s), some (yi i), some (yi o), some (yi j), some (yi n), none, none, none, none]) (st' := [yi ((M 83 o) - j), yi n]) (M' := M) (N' := N) rfl ?_
                        refine r_icmp_le (pc := 121) f_188_121 (by omega) (by omega) (fun h121 => ?_) (fun h121 => ?_)
                        · refine r_run 14 (pc' := 147) (ls' := [some (yr 75), some (yi s), some (yi i), some (yi o), some (yi j), some (yi n), some (yi ((40 * s) + i)), some (yi ((40 * o) + j)), some (yi 0), none]) (st' := []) (M' := M) (N' := N) rfl ?_
                          have h := m_copy_loop (S := S) (d := 1) (s := s) (i := i) (o := o) (j := j) (n := n) (a := 40 * s + i) (b := 40 * o + j) (M := M) (N := N) (q := n.toNat) (k := 0) (l9 := none) (by omega) (by omega) (by omega) (by omega) (by omega)
                          rw [ypart_zero] at h
                          refine r_post h ?_
                          rintro _ _ _ ⟨rfl, rfl, rfl⟩
                          exact ⟨n, rfl, ⟨by rw [if_neg (by omega), if_neg (by omega), if_neg (by omega), if_neg (by omega)], by rw [if_pos (by omega)]⟩, rfl⟩
                        · refine r_run 1 (pc' := 126) (ls' := [some (yr 75), some (yi s), some (yi i), some (yi o), some (yi j), some (yi n), none, none, none, none]) (st' := [yi (-12)]) (M' := M) (N' := N) rfl ?_
                          refine r_iret m_188 rfl f_188_126 ?_
                          exact ⟨_, rfl, ⟨by rw [if_neg (by omega), if_neg (by omega), if_neg (by omega), if_pos (by omega)], by rw [if_neg (by omega)]⟩, rfl⟩
          · refine r_run 1 (pc' := 61) (ls' := [some (yr 75), some (yi s), some (yi i), some (yi o), some (yi j), some (yi n), none, none, none, none]) (st' := [yi (-13)]) (M' := M) (N' := N) rfl ?_
            refine r_iret m_188 rfl f_188_61 ?_
            exact ⟨_, rfl, ⟨by rw [if_neg (by omega), if_neg (by omega), if_pos (by omega)], by rw [if_neg (by omega)]⟩, rfl⟩
        · refine r_run 1 (pc' := 43) (ls' := [some (yr 75), some (yi s), some (yi i), some (yi o), some (yi j), some (yi n), none, none, none, none]) (st' := [yi (-11)]) (M' := M) (N' := N) rfl ?_
          refine r_iret m_188 rfl f_188_43 ?_
          exact ⟨_, rfl, ⟨by rw [if_neg (by omega), if_pos (by omega)], by rw [if_neg (by omega)]⟩, rfl⟩
    · refine r_run 1 (pc' := 20) (ls' := [some (yr 75), some (yi s), some (yi i), some (yi o), some (yi j), some (yi n), none, none, none, none]) (st' := [yi (-2)]) (M' := M) (N' := N) rfl ?_
      refine r_iret m_188 rfl f_188_20 ?_
      exact ⟨_, rfl, ⟨by rw [if_pos (by omega)], by rw [if_neg (by omega)]⟩, rfl⟩
