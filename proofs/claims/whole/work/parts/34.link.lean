abbrev lGood (a b lo hi : Int) : Prop := (0 ≤ a ∧ a ≤ 5) ∧ (0 ≤ b ∧ b ≤ 5) ∧ a ≠ b ∧ (-999 ≤ lo ∧ lo ≤ 999) ∧ lo ≤ hi ∧ hi ≤ 999
def cLinked (M : YM) (a b lo hi : Int) : YM := yu (yu (yu (yu (yu M (41 + M 1 2) 0 a) (41 + M 1 2) 1 b) (41 + M 1 2) 2 lo) (41 + M 1 2) 3 hi) 1 2 (M 1 2 + 1)
def mLinked (M : YM) (a b lo hi : Int) : YM := yu (yu (yu (yu (yu M 77 (4 * M 75 2) a) 77 (4 * M 75 2 + 1) b) 77 (4 * M 75 2 + 2) lo) 77 (4 * M 75 2 + 3) hi) 75 2 (M 75 2 + 1)
/-- the links of both, alike -/
def InvL (M : YM) : Prop := M 1 2 = M 75 2 ∧ (0 ≤ M 75 2 ∧ M 75 2 ≤ 8) ∧
  ∀ k : Int, 0 ≤ k → k < 8 → (M (41 + k) 0 = M 77 (4 * k) ∧ M (41 + k) 1 = M 77 (4 * k + 1) ∧ M (41 + k) 2 = M 77 (4 * k + 2) ∧ M (41 + k) 3 = M 77 (4 * k + 3)) ∧ (0 ≤ M 77 (4 * k) ∧ M 77 (4 * k) ≤ 5) ∧ (0 ≤ M 77 (4 * k + 1) ∧ M 77 (4 * k + 1) ≤ 5) ∧ (-999 ≤ M 77 (4 * k + 2) ∧ M 77 (4 * k + 2) ≤ M 77 (4 * k + 3) ∧ M 77 (4 * k + 3) ≤ 999)
theorem c_link {S : XS} {M N : YM} {a b lo hi : Int} (ha : -2147483648 ≤ a ∧ a < 2147483648) (hb : -2147483648 ≤ b ∧ b < 2147483648) (hlo : -2147483648 ≤ lo ∧ lo < 2147483648) (hhi : -2147483648 ≤ hi ∧ hi < 2147483648) (hc : 0 ≤ M 1 2 ∧ M 1 2 ≤ 8) : rm S 2 60 [yr 0, yi a, yi b, yi lo, yi hi] M N (fun r M' N' => ∃ v : Int, some (yi v) = r ∧ ((lGood a b lo hi ∧ M 1 2 < 8 ∧ v = M 1 2 ∧ cLinked M a b lo hi = M') ∨ (lGood a b lo hi ∧ 8 ≤ M 1 2 ∧ v = -4 ∧ M = M') ∨ (¬ lGood a b lo hi ∧ v = -2 ∧ M = M')) ∧ N = N') := by
  refine ⟨xe_60, m_60, Nat.le_of_ble_eq_true rfl, ?_⟩
  refine r_run 1 (pc' := 1) (ls' := [some (yr 0), some (yi a), some (yi b), some (yi lo), some (yi hi)]) (st' := [yi a]) (M' := M) (N' := N) rfl ?_
  refine r_static (mj := 92) (as := [yi a]) (rest := []) f_60_1 (by decide) rfl m_92 rfl rfl rfl (Nat.le_of_ble_eq_true rfl) (by omega) (c_isQ (by omega)) ?_
  rintro _ _ _ ⟨v1, rfl, hv1, rfl, rfl⟩
  refine r_if_eq (pc := 4) f_60_4 (by omega) (fun h4 => ?_) (fun h4 => ?_)
  · refine r_run 1 (pc' := 54) (ls' := [some (yr 0), some (yi a), some (yi b), some (yi lo), some (yi hi)]) (st' := [yi (-2)]) (M' := M) (N' := N) rfl ?_
    refine r_iret m_60 rfl f_60_54 ?_
    exact ⟨_, rfl, Or.inr (Or.inr ⟨by omega, rfl, rfl⟩), rfl⟩
  · refine r_run 1 (pc' := 8) (ls' := [some (yr 0), some (yi a), some (yi b), some (yi lo), some (yi hi)]) (st' := [yi b]) (M' := M) (N' := N) rfl ?_
    refine r_static (mj := 92) (as := [yi b]) (rest := []) f_60_8 (by decide) rfl m_92 rfl rfl rfl (Nat.le_of_ble_eq_true rfl) (by omega) (c_isQ (by omega)) ?_
    rintro _ _ _ ⟨v8, rfl, hv8, rfl, rfl⟩
    refine r_if_eq (pc := 11) f_60_11 (by omega) (fun h11 => ?_) (fun h11 => ?_)
    · refine r_run 1 (pc' := 54) (ls' := [some (yr 0), some (yi a), some (yi b), some (yi lo), some (yi hi)]) (st' := [yi (-2)]) (M' := M) (N' := N) rfl ?_
      refine r_iret m_60 rfl f_60_54 ?_
      exact ⟨_, rfl, Or.inr (Or.inr ⟨by omega, rfl, rfl⟩), rfl⟩
    · refine r_run 2 (pc' := 16) (ls' := [some (yr 0), some (yi a), some (yi b), some (yi lo), some (yi hi)]) (st' := [yi b, yi a]) (M' := M) (N' := N) rfl ?_
      refine r_icmp_eq (pc := 16) f_60_16 (by omega) (by omega) (fun h16 => ?_) (fun h16 => ?_)
      · refine r_run 1 (pc' := 54) (ls' := [some (yr 0), some (yi a), some (yi b), some (yi lo), some (yi hi)]) (st' := [yi (-2)]) (M' := M) (N' := N) rfl ?_
        refine r_iret m_60 rfl f_60_54 ?_
        exact ⟨_, rfl, Or.inr (Or.inr ⟨by omega, rfl, rfl⟩), rfl⟩
      · refine r_run 3 (pc' := 26) (ls' := [some (yr 0), some (yi a), some (yi b), some (yi lo), some (yi hi)]) (st' := [yi 999, yi (-999), yi lo]) (M' := M) (N' := N) rfl ?_
        refine r_static (mj := 90) (as := [yi lo, yi (-999), yi 999]) (rest := []) f_60_26 (by decide) rfl m_90 rfl rfl rfl (Nat.le_of_ble_eq_true rfl) (by omega) (c_within (by omega) (by omega) (by omega)) ?_
        rintro _ _ _ ⟨v26, rfl, hv26, rfl, rfl⟩
        refine r_if_eq (pc := 29) f_60_29 (by omega) (fun h29 => ?_) (fun h29 => ?_)
        · refine r_run 1 (pc' := 54) (ls' := [some (yr 0), some (yi a), some (yi b), some (yi lo), some (yi hi)]) (st' := [yi (-2)]) (M' := M) (N' := N) rfl ?_
          refine r_iret m_60 rfl f_60_54 ?_
          exact ⟨_, rfl, Or.inr (Or.inr ⟨by omega, rfl, rfl⟩), rfl⟩
        · refine r_run 3 (pc' := 40) (ls' := [some (yr 0), some (yi a), some (yi b), some (yi lo), some (yi hi)]) (st' := [yi 999, yi (-999), yi hi]) (M' := M) (N' := N) rfl ?_
          refine r_static (mj := 90) (as := [yi hi, yi (-999), yi 999]) (rest := []) f_60_40 (by decide) rfl m_90 rfl rfl rfl (Nat.le_of_ble_eq_true rfl) (by omega) (c_within (by omega) (by omega) (by omega)) ?_
          rintro _ _ _ ⟨v40, rfl, hv40, rfl, rfl⟩
          refine r_if_eq (pc := 43) f_60_43 (by omega) (fun h43 => ?_) (fun h43 => ?_)
          · refine r_run 1 (pc' := 54) (ls' := [some (yr 0), some (yi a), some (yi b), some (yi lo), some (yi hi)]) (st' := [yi (-2)]) (M' := M) (N' := N) rfl ?_
            refine r_iret m_60 rfl f_60_54 ?_
            exact ⟨_, rfl, Or.inr (Or.inr ⟨by omega, rfl, rfl⟩), rfl⟩
          · refine r_run 2 (pc' := 49) (ls' := [some (yr 0), some (yi a), some (yi b), some (yi lo), some (yi hi)]) (st' := [yi hi, yi lo]) (M' := M) (N' := N) rfl ?_
            refine r_icmp_le (pc := 49) f_60_49 (by omega) (by omega) (fun h49 => ?_) (fun h49 => ?_)
            · refine r_run 4 (pc' := 64) (ls' := [some (yr 0), some (yi a), some (yi b), some (yi lo), some (yi hi)]) (st' := [yi 8, yi (M 1 2)]) (M' := M) (N' := N) rfl ?_
              refine r_icmp_lt (pc := 64) f_60_64 (by omega) (by omega) (fun h64 => ?_) (fun h64 => ?_)
              · refine r_run 5 (pc' := 81) (ls' := [some (yr 0), some (yi a), some (yi b), some (yi lo), some (yi hi)]) (st' := [yi (M 1 2), yr 25]) (M' := M) (N' := N) rfl ?_
                refine r_aald (r := 41 + M 1 2) (kd := 100) (n := 8) f_60_81 (by decide) (by decide) (by decide) (by decide) (by omega) (rf_link (by omega)) ?_
                refine r_run 4 (pc' := 87) (ls' := [some (yr 0), some (yi a), some (yi b), some (yi lo), some (yi hi)]) (st' := [yi hi, yi lo, yi b, yi a, yr (41 + M 1 2)]) (M' := M) (N' := N) rfl ?_
                refine r_virtual (mj := 2) (b := 41 + M 1 2) (as := [yi a, yi b, yi lo, yi hi]) (rest := []) f_60_87 (by decide) rfl m_2 (by decide) (by omega) (by rw [(yk_link (by omega))]; rfl) rfl rfl (Nat.le_of_ble_eq_true rfl) (by omega) (c_lbecomes (by omega) (yk_link (by omega))) ?_
                rintro _ M2 _ ⟨rfl, hM2, rfl⟩
                have h11 : M2 1 2 = M 1 2 := by
                  rw [← hM2]
                  rw [yu_ne (by omega), yu_ne (by omega), yu_ne (by omega), yu_ne (by omega)]
                refine r_run 12 (pc' := 112) (ls' := [some (yr 0), some (yi a), some (yi b), some (yi lo), some (yi hi)]) (st' := [yi (((M2 1 2) + 1) - 1)]) (M' := (yu M2 1 2 ((M2 1 2) + 1))) (N' := N) rfl ?_
                refine r_iret m_60 rfl f_60_112 ?_
                exact ⟨_, rfl, Or.inl ⟨by omega, by omega, by omega, by rw [h11, ← hM2]; rfl⟩, rfl⟩
              · refine r_run 1 (pc' := 69) (ls' := [some (yr 0), some (yi a), some (yi b), some (yi lo), some (yi hi)]) (st' := [yi (-4)]) (M' := M) (N' := N) rfl ?_
                refine r_iret m_60 rfl f_60_69 ?_
                exact ⟨_, rfl, Or.inr (Or.inl ⟨by omega, by omega, rfl, rfl⟩), rfl⟩
            · refine r_run 1 (pc' := 54) (ls' := [some (yr 0), some (yi a), some (yi b), some (yi lo), some (yi hi)]) (st' := [yi (-2)]) (M' := M) (N' := N) rfl ?_
              refine r_iret m_60 rfl f_60_54 ?_
              exact ⟨_, rfl, Or.inr (Or.inr ⟨by omega, rfl, rfl⟩), rfl⟩
theorem m_link {S : XS} {M N : YM} {a b lo hi : Int} (ha : -2147483648 ≤ a ∧ a < 2147483648) (hb : -2147483648 ≤ b ∧ b < 2147483648) (hlo : -2147483648 ≤ lo ∧ lo < 2147483648) (hhi : -2147483648 ≤ hi ∧ hi < 2147483648) (hc : 0 ≤ M 75 2 ∧ M 75 2 ≤ 8) : rm S 2 143 [yr 75, yi a, yi b, yi lo, yi hi] M N (fun r M' N' => ∃ v : Int, some (yi v) = r ∧ ((lGood a b lo hi ∧ M 75 2 < 8 ∧ v = M 75 2 ∧ mLinked M a b lo hi = M') ∨ (lGood a b lo hi ∧ 8 ≤ M 75 2 ∧ v = -4 ∧ M = M') ∨ (¬ lGood a b lo hi ∧ v = -2 ∧ M = M')) ∧ N = N') := by
  refine ⟨xe_143, m_143, Nat.le_of_ble_eq_true rfl, ?_⟩
  refine r_run 1 (pc' := 1) (ls' := [some (yr 75), some (yi a), some (yi b), some (yi lo), some (yi hi), none]) (st' := [yi a]) (M' := M) (N' := N) rfl ?_
  refine r_static (mj := 115) (as := [yi a]) (rest := []) f_143_1 (by decide) rfl m_115 rfl rfl rfl (Nat.le_of_ble_eq_true rfl) (by omega) (m_isOne (by omega)) ?_
  rintro _ _ _ ⟨v1, rfl, hv1, rfl, rfl⟩
  refine r_if_eq (pc := 4) f_143_4 (by omega) (fun h4 => ?_) (fun h4 => ?_)
  · refine r_run 3 (pc' := 53) (ls' := [some (yr 75), some (yi a), some (yi b), some (yi lo), some (yi hi), some (yi 0)]) (st' := [yi 0]) (M' := M) (N' := N) rfl ?_
    refine r_if_ne (pc := 53) f_143_53 (by omega) (fun h53 => ?_) (fun h53 => ?_)
    · refine r_run 3 (pc' := 65) (ls' := [some (yr 75), some (yi a), some (yi b), some (yi lo), some (yi hi), some (yi 0)]) (st' := [yi 8, yi (M 75 2)]) (M' := M) (N' := N) rfl ?_
      refine r_icmp_ne (pc := 65) f_143_65 (by omega) (by omega) (fun h65 => ?_) (fun h65 => ?_)
      · refine r_run 7 (pc' := 82) (ls' := [some (yr 75), some (yi a), some (yi b), some (yi lo), some (yi hi), some (yi 0)]) (st' := [yi a, yi (4 * (M 75 2)), yr 77]) (M' := M) (N' := N) rfl ?_
        refine r_iast (n := 32) f_143_82 (by decide) (by decide) (by decide) (by omega) ?_
        refine r_run 9 (pc' := 96) (ls' := [some (yr 75), some (yi a), some (yi b), some (yi lo), some (yi hi), some (yi 0)]) (st' := [yi b, yi ((4 * (M 75 2)) + 1), yr 77]) (M' := (yu M 77 (4 * (M 75 2)) a)) (N' := N) rfl ?_
        refine r_iast (n := 32) f_143_96 (by decide) (by decide) (by decide) (by omega) ?_
        refine r_run 9 (pc' := 110) (ls' := [some (yr 75), some (yi a), some (yi b), some (yi lo), some (yi hi), some (yi 0)]) (st' := [yi lo, yi ((4 * (M 75 2)) + 2), yr 77]) (M' := (yu (yu M 77 (4 * (M 75 2)) a) 77 ((4 * (M 75 2)) + 1) b)) (N' := N) rfl ?_
        refine r_iast (n := 32) f_143_110 (by decide) (by decide) (by decide) (by omega) ?_
        refine r_run 9 (pc' := 125) (ls' := [some (yr 75), some (yi a), some (yi b), some (yi lo), some (yi hi), some (yi 0)]) (st' := [yi hi, yi ((4 * (M 75 2)) + 3), yr 77]) (M' := (yu (yu (yu M 77 (4 * (M 75 2)) a) 77 ((4 * (M 75 2)) + 1) b) 77 ((4 * (M 75 2)) + 2) lo)) (N' := N) rfl ?_
        refine r_iast (n := 32) f_143_125 (by decide) (by decide) (by decide) (by omega) ?_
        refine r_run 10 (pc' := 142) (ls' := [some (yr 75), some (yi a), some (yi b), some (yi lo), some (yi hi), some (yi 0)]) (st' := [yi (((M 75 2) + 1) - 1)]) (M' := (yu (yu (yu (yu (yu M 77 (4 * (M 75 2)) a) 77 ((4 * (M 75 2)) + 1) b) 77 ((4 * (M 75 2)) + 2) lo) 77 ((4 * (M 75 2)) + 3) hi) 75 2 ((M 75 2) + 1))) (N' := N) rfl ?_
        refine r_iret m_143 rfl f_143_142 ?_
        exact ⟨_, rfl, Or.inl ⟨by omega, by omega, by omega, rfl⟩, rfl⟩
      · refine r_run 1 (pc' := 70) (ls' := [some (yr 75), some (yi a), some (yi b), some (yi lo), some (yi hi), some (yi 0)]) (st' := [yi (-4)]) (M' := M) (N' := N) rfl ?_
        refine r_iret m_143 rfl f_143_70 ?_
        exact ⟨_, rfl, Or.inr (Or.inl ⟨by omega, by omega, rfl, rfl⟩), rfl⟩
    · refine r_run 1 (pc' := 58) (ls' := [some (yr 75), some (yi a), some (yi b), some (yi lo), some (yi hi), some (yi 0)]) (st' := [yi (-2)]) (M' := M) (N' := N) rfl ?_
      refine r_iret m_143 rfl f_143_58 ?_
      exact ⟨_, rfl, Or.inr (Or.inr ⟨by omega, rfl, rfl⟩), rfl⟩
  · refine r_run 1 (pc' := 8) (ls' := [some (yr 75), some (yi a), some (yi b), some (yi lo), some (yi hi), none]) (st' := [yi b]) (M' := M) (N' := N) rfl ?_
    refine r_static (mj := 115) (as := [yi b]) (rest := []) f_143_8 (by decide) rfl m_115 rfl rfl rfl (Nat.le_of_ble_eq_true rfl) (by omega) (m_isOne (by omega)) ?_
    rintro _ _ _ ⟨v8, rfl, hv8, rfl, rfl⟩
    refine r_if_eq (pc := 11) f_143_11 (by omega) (fun h11 => ?_) (fun h11 => ?_)
    · refine r_run 3 (pc' := 53) (ls' := [some (yr 75), some (yi a), some (yi b), some (yi lo), some (yi hi), some (yi 0)]) (st' := [yi 0]) (M' := M) (N' := N) rfl ?_
      refine r_if_ne (pc := 53) f_143_53 (by omega) (fun h53 => ?_) (fun h53 => ?_)
      · refine r_run 3 (pc' := 65) (ls' := [some (yr 75), some (yi a), some (yi b), some (yi lo), some (yi hi), some (yi 0)]) (st' := [yi 8, yi (M 75 2)]) (M' := M) (N' := N) rfl ?_
        refine r_icmp_ne (pc := 65) f_143_65 (by omega) (by omega) (fun h65 => ?_) (fun h65 => ?_)
        · refine r_run 7 (pc' := 82) (ls' := [some (yr 75), some (yi a), some (yi b), some (yi lo), some (yi hi), some (yi 0)]) (st' := [yi a, yi (4 * (M 75 2)), yr 77]) (M' := M) (N' := N) rfl ?_
          refine r_iast (n := 32) f_143_82 (by decide) (by decide) (by decide) (by omega) ?_
          refine r_run 9 (pc' := 96) (ls' := [some (yr 75), some (yi a), some (yi b), some (yi lo), some (yi hi), some (yi 0)]) (st' := [yi b, yi ((4 * (M 75 2)) + 1), yr 77]) (M' := (yu M 77 (4 * (M 75 2)) a)) (N' := N) rfl ?_
          refine r_iast (n := 32) f_143_96 (by decide) (by decide) (by decide) (by omega) ?_
          refine r_run 9 (pc' := 110) (ls' := [some (yr 75), some (yi a), some (yi b), some (yi lo), some (yi hi), some (yi 0)]) (st' := [yi lo, yi ((4 * (M 75 2)) + 2), yr 77]) (M' := (yu (yu M 77 (4 * (M 75 2)) a) 77 ((4 * (M 75 2)) + 1) b)) (N' := N) rfl ?_
          refine r_iast (n := 32) f_143_110 (by decide) (by decide) (by decide) (by omega) ?_
          refine r_run 9 (pc' := 125) (ls' := [some (yr 75), some (yi a), some (yi b), some (yi lo), some (yi hi), some (yi 0)]) (st' := [yi hi, yi ((4 * (M 75 2)) + 3), yr 77]) (M' := (yu (yu (yu M 77 (4 * (M 75 2)) a) 77 ((4 * (M 75 2)) + 1) b) 77 ((4 * (M 75 2)) + 2) lo)) (N' := N) rfl ?_
          refine r_iast (n := 32) f_143_125 (by decide) (by decide) (by decide) (by omega) ?_
          refine r_run 10 (pc' := 142) (ls' := [some (yr 75), some (yi a), some (yi b), some (yi lo), some (yi hi), some (yi 0)]) (st' := [yi (((M 75 2) + 1) - 1)]) (M' := (yu (yu (yu (yu (yu M 77 (4 * (M 75 2)) a) 77 ((4 * (M 75 2)) + 1) b) 77 ((4 * (M 75 2)) + 2) lo) 77 ((4 * (M 75 2)) + 3) hi) 75 2 ((M 75 2) + 1))) (N' := N) rfl ?_
          refine r_iret m_143 rfl f_143_142 ?_
          exact ⟨_, rfl, Or.inl ⟨by omega, by omega, by omega, rfl⟩, rfl⟩
        · refine r_run 1 (pc' := 70) (ls' := [some (yr 75), some (yi a), some (yi b), some (yi lo), some (yi hi), some (yi 0)]) (st' := [yi (-4)]) (M' := M) (N' := N) rfl ?_
          refine r_iret m_143 rfl f_143_70 ?_
          exact ⟨_, rfl, Or.inr (Or.inl ⟨by omega, by omega, rfl, rfl⟩), rfl⟩
      · refine r_run 1 (pc' := 58) (ls' := [some (yr 75), some (yi a), some (yi b), some (yi lo), some (yi hi), some (yi 0)]) (st' := [yi (-2)]) (M' := M) (N' := N) rfl ?_
        refine r_iret m_143 rfl f_143_58 ?_
        exact ⟨_, rfl, Or.inr (Or.inr ⟨by omega, rfl, rfl⟩), rfl⟩
    · refine r_run 2 (pc' := 16) (ls' := [some (yr 75), some (yi a), some (yi b), some (yi lo), some (yi hi), none]) (st' := [yi b, yi a]) (M' := M) (N' := N) rfl ?_
      refine r_icmp_eq (pc := 16) f_143_16 (by omega) (by omega) (fun h16 => ?_) (fun h16 => ?_)
      · refine r_run 3 (pc' := 53) (ls' := [some (yr 75), some (yi a), some (yi b), some (yi lo), some (yi hi), some (yi 0)]) (st' := [yi 0]) (M' := M) (N' := N) rfl ?_
        refine r_if_ne (pc := 53) f_143_53 (by omega) (fun h53 => ?_) (fun h53 => ?_)
        · refine r_run 3 (pc' := 65) (ls' := [some (yr 75), some (yi a), some (yi b), some (yi lo), some (yi hi), some (yi 0)]) (st' := [yi 8, yi (M 75 2)]) (M' := M) (N' := N) rfl ?_
          refine r_icmp_ne (pc := 65) f_143_65 (by omega) (by omega) (fun h65 => ?_) (fun h65 => ?_)
          · refine r_run 7 (pc' := 82) (ls' := [some (yr 75), some (yi a), some (yi b), some (yi lo), some (yi hi), some (yi 0)]) (st' := [yi a, yi (4 * (M 75 2)), yr 77]) (M' := M) (N' := N) rfl ?_
            refine r_iast (n := 32) f_143_82 (by decide) (by decide) (by decide) (by omega) ?_
            refine r_run 9 (pc' := 96) (ls' := [some (yr 75), some (yi a), some (yi b), some (yi lo), some (yi hi), some (yi 0)]) (st' := [yi b, yi ((4 * (M 75 2)) + 1), yr 77]) (M' := (yu M 77 (4 * (M 75 2)) a)) (N' := N) rfl ?_
            refine r_iast (n := 32) f_143_96 (by decide) (by decide) (by decide) (by omega) ?_
            refine r_run 9 (pc' := 110) (ls' := [some (yr 75), some (yi a), some (yi b), some (yi lo), some (yi hi), some (yi 0)]) (st' := [yi lo, yi ((4 * (M 75 2)) + 2), yr 77]) (M' := (yu (yu M 77 (4 * (M 75 2)) a) 77 ((4 * (M 75 2)) + 1) b)) (N' := N) rfl ?_
            refine r_iast (n := 32) f_143_110 (by decide) (by decide) (by decide) (by omega) ?_
            refine r_run 9 (pc' := 125) (ls' := [some (yr 75), some (yi a), some (yi b), some (yi lo), some (yi hi), some (yi 0)]) (st' := [yi hi, yi ((4 * (M 75 2)) + 3), yr 77]) (M' := (yu (yu (yu M 77 (4 * (M 75 2)) a) 77 ((4 * (M 75 2)) + 1) b) 77 ((4 * (M 75 2)) + 2) lo)) (N' := N) rfl ?_
            refine r_iast (n := 32) f_143_125 (by decide) (by decide) (by decide) (by omega) ?_
            refine r_run 10 (pc' := 142) (ls' := [some (yr 75), some (yi a), some (yi b), some (yi lo), some (yi hi), some (yi 0)]) (st' := [yi (((M 75 2) + 1) - 1)]) (M' := (yu (yu (yu (yu (yu M 77 (4 * (M 75 2)) a) 77 ((4 * (M 75 2)) + 1) b) 77 ((4 * (M 75 2)) + 2) lo) 77 ((4 * (M 75 2)) + 3) hi) 75 2 ((M 75 2) + 1))) (N' := N) rfl ?_
            refine r_iret m_143 rfl f_143_142 ?_
            exact ⟨_, rfl, Or.inl ⟨by omega, by omega, by omega, rfl⟩, rfl⟩
          · refine r_run 1 (pc' := 70) (ls' := [some (yr 75), some (yi a), some (yi b), some (yi lo), some (yi hi), some (yi 0)]) (st' := [yi (-4)]) (M' := M) (N' := N) rfl ?_
            refine r_iret m_143 rfl f_143_70 ?_
            exact ⟨_, rfl, Or.inr (Or.inl ⟨by omega, by omega, rfl, rfl⟩), rfl⟩
        · refine r_run 1 (pc' := 58) (ls' := [some (yr 75), some (yi a), some (yi b), some (yi lo), some (yi hi), some (yi 0)]) (st' := [yi (-2)]) (M' := M) (N' := N) rfl ?_
          refine r_iret m_143 rfl f_143_58 ?_
          exact ⟨_, rfl, Or.inr (Or.inr ⟨by omega, rfl, rfl⟩), rfl⟩
      · refine r_run 3 (pc' := 26) (ls' := [some (yr 75), some (yi a), some (yi b), some (yi lo), some (yi hi), none]) (st' := [yi 999, yi (-999), yi lo]) (M' := M) (N' := N) rfl ?_
        refine r_static (mj := 112) (as := [yi lo, yi (-999), yi 999]) (rest := []) f_143_26 (by decide) rfl m_112 rfl rfl rfl (Nat.le_of_ble_eq_true rfl) (by omega) (m_in (by omega) (by omega) (by omega)) ?_
        rintro _ _ _ ⟨v26, rfl, hv26, rfl, rfl⟩
        refine r_if_eq (pc := 29) f_143_29 (by omega) (fun h29 => ?_) (fun h29 => ?_)
        · refine r_run 3 (pc' := 53) (ls' := [some (yr 75), some (yi a), some (yi b), some (yi lo), some (yi hi), some (yi 0)]) (st' := [yi 0]) (M' := M) (N' := N) rfl ?_
          refine r_if_ne (pc := 53) f_143_53 (by omega) (fun h53 => ?_) (fun h53 => ?_)
          · refine r_run 3 (pc' := 65) (ls' := [some (yr 75), some (yi a), some (yi b), some (yi lo), some (yi hi), some (yi 0)]) (st' := [yi 8, yi (M 75 2)]) (M' := M) (N' := N) rfl ?_
            refine r_icmp_ne (pc := 65) f_143_65 (by omega) (by omega) (fun h65 => ?_) (fun h65 => ?_)
            · refine r_run 7 (pc' := 82) (ls' := [some (yr 75), some (yi a), some (yi b), some (yi lo), some (yi hi), some (yi 0)]) (st' := [yi a, yi (4 * (M 75 2)), yr 77]) (M' := M) (N' := N) rfl ?_
              refine r_iast (n := 32) f_143_82 (by decide) (by decide) (by decide) (by omega) ?_
              refine r_run 9 (pc' := 96) (ls' := [some (yr 75), some (yi a), some (yi b), some (yi lo), some (yi hi), some (yi 0)]) (st' := [yi b, yi ((4 * (M 75 2)) + 1), yr 77]) (M' := (yu M 77 (4 * (M 75 2)) a)) (N' := N) rfl ?_
              refine r_iast (n := 32) f_143_96 (by decide) (by decide) (by decide) (by omega) ?_
              refine r_run 9 (pc' := 110) (ls' := [some (yr 75), some (yi a), some (yi b), some (yi lo), some (yi hi), some (yi 0)]) (st' := [yi lo, yi ((4 * (M 75 2)) + 2), yr 77]) (M' := (yu (yu M 77 (4 * (M 75 2)) a) 77 ((4 * (M 75 2)) + 1) b)) (N' := N) rfl ?_
              refine r_iast (n := 32) f_143_110 (by decide) (by decide) (by decide) (by omega) ?_
              refine r_run 9 (pc' := 125) (ls' := [some (yr 75), some (yi a), some (yi b), some (yi lo), some (yi hi), some (yi 0)]) (st' := [yi hi, yi ((4 * (M 75 2)) + 3), yr 77]) (M' := (yu (yu (yu M 77 (4 * (M 75 2)) a) 77 ((4 * (M 75 2)) + 1) b) 77 ((4 * (M 75 2)) + 2) lo)) (N' := N) rfl ?_
              refine r_iast (n := 32) f_143_125 (by decide) (by decide) (by decide) (by omega) ?_
              refine r_run 10 (pc' := 142) (ls' := [some (yr 75), some (yi a), some (yi b), some (yi lo), some (yi hi), some (yi 0)]) (st' := [yi (((M 75 2) + 1) - 1)]) (M' := (yu (yu (yu (yu (yu M 77 (4 * (M 75 2)) a) 77 ((4 * (M 75 2)) + 1) b) 77 ((4 * (M 75 2)) + 2) lo) 77 ((4 * (M 75 2)) + 3) hi) 75 2 ((M 75 2) + 1))) (N' := N) rfl ?_
              refine r_iret m_143 rfl f_143_142 ?_
              exact ⟨_, rfl, Or.inl ⟨by omega, by omega, by omega, rfl⟩, rfl⟩
            · refine r_run 1 (pc' := 70) (ls' := [some (yr 75), some (yi a), some (yi b), some (yi lo), some (yi hi), some (yi 0)]) (st' := [yi (-4)]) (M' := M) (N' := N) rfl ?_
              refine r_iret m_143 rfl f_143_70 ?_
              exact ⟨_, rfl, Or.inr (Or.inl ⟨by omega, by omega, rfl, rfl⟩), rfl⟩
          · refine r_run 1 (pc' := 58) (ls' := [some (yr 75), some (yi a), some (yi b), some (yi lo), some (yi hi), some (yi 0)]) (st' := [yi (-2)]) (M' := M) (N' := N) rfl ?_
            refine r_iret m_143 rfl f_143_58 ?_
            exact ⟨_, rfl, Or.inr (Or.inr ⟨by omega, rfl, rfl⟩), rfl⟩
        · refine r_run 3 (pc' := 38) (ls' := [some (yr 75), some (yi a), some (yi b), some (yi lo), some (yi hi), none]) (st' := [yi 999, yi lo, yi hi]) (M' := M) (N' := N) rfl ?_
          refine r_static (mj := 112) (as := [yi hi, yi lo, yi 999]) (rest := []) f_143_38 (by decide) rfl m_112 rfl rfl rfl (Nat.le_of_ble_eq_true rfl) (by omega) (m_in (by omega) (by omega) (by omega)) ?_
          rintro _ _ _ ⟨v38, rfl, hv38, rfl, rfl⟩
          refine r_if_eq (pc := 41) f_143_41 (by omega) (fun h41 => ?_) (fun h41 => ?_)
          · refine r_run 3 (pc' := 53) (ls' := [some (yr 75), some (yi a), some (yi b), some (yi lo), some (yi hi), some (yi 0)]) (st' := [yi 0]) (M' := M) (N' := N) rfl ?_
            refine r_if_ne (pc := 53) f_143_53 (by omega) (fun h53 => ?_) (fun h53 => ?_)
            · refine r_run 3 (pc' := 65) (ls' := [some (yr 75), some (yi a), some (yi b), some (yi lo), some (yi hi), some (yi 0)]) (st' := [yi 8, yi (M 75 2)]) (M' := M) (N' := N) rfl ?_
              refine r_icmp_ne (pc := 65) f_143_65 (by omega) (by omega) (fun h65 => ?_) (fun h65 => ?_)
              · refine r_run 7 (pc' := 82) (ls' := [some (yr 75), some (yi a), some (yi b), some (yi lo), some (yi hi), some (yi 0)]) (st' := [yi a, yi (4 * (M 75 2)), yr 77]) (M' := M) (N' := N) rfl ?_
                refine r_iast (n := 32) f_143_82 (by decide) (by decide) (by decide) (by omega) ?_
                refine r_run 9 (pc' := 96) (ls' := [some (yr 75), some (yi a), some (yi b), some (yi lo), some (yi hi), some (yi 0)]) (st' := [yi b, yi ((4 * (M 75 2)) + 1), yr 77]) (M' := (yu M 77 (4 * (M 75 2)) a)) (N' := N) rfl ?_
                refine r_iast (n := 32) f_143_96 (by decide) (by decide) (by decide) (by omega) ?_
                refine r_run 9 (pc' := 110) (ls' := [some (yr 75), some (yi a), some (yi b), some (yi lo), some (yi hi), some (yi 0)]) (st' := [yi lo, yi ((4 * (M 75 2)) + 2), yr 77]) (M' := (yu (yu M 77 (4 * (M 75 2)) a) 77 ((4 * (M 75 2)) + 1) b)) (N' := N) rfl ?_
                refine r_iast (n := 32) f_143_110 (by decide) (by decide) (by decide) (by omega) ?_
                refine r_run 9 (pc' := 125) (ls' := [some (yr 75), some (yi a), some (yi b), some (yi lo), some (yi hi), some (yi 0)]) (st' := [yi hi, yi ((4 * (M 75 2)) + 3), yr 77]) (M' := (yu (yu (yu M 77 (4 * (M 75 2)) a) 77 ((4 * (M 75 2)) + 1) b) 77 ((4 * (M 75 2)) + 2) lo)) (N' := N) rfl ?_
                refine r_iast (n := 32) f_143_125 (by decide) (by decide) (by decide) (by omega) ?_
                refine r_run 10 (pc' := 142) (ls' := [some (yr 75), some (yi a), some (yi b), some (yi lo), some (yi hi), some (yi 0)]) (st' := [yi (((M 75 2) + 1) - 1)]) (M' := (yu (yu (yu (yu (yu M 77 (4 * (M 75 2)) a) 77 ((4 * (M 75 2)) + 1) b) 77 ((4 * (M 75 2)) + 2) lo) 77 ((4 * (M 75 2)) + 3) hi) 75 2 ((M 75 2) + 1))) (N' := N) rfl ?_
                refine r_iret m_143 rfl f_143_142 ?_
                exact ⟨_, rfl, Or.inl ⟨by omega, by omega, by omega, rfl⟩, rfl⟩
              · refine r_run 1 (pc' := 70) (ls' := [some (yr 75), some (yi a), some (yi b), some (yi lo), some (yi hi), some (yi 0)]) (st' := [yi (-4)]) (M' := M) (N' := N) rfl ?_
                refine r_iret m_143 rfl f_143_70 ?_
                exact ⟨_, rfl, Or.inr (Or.inl ⟨by omega, by omega, rfl, rfl⟩), rfl⟩
            · refine r_run 1 (pc' := 58) (ls' := [some (yr 75), some (yi a), some (yi b), some (yi lo), some (yi hi), some (yi 0)]) (st' := [yi (-2)]) (M' := M) (N' := N) rfl ?_
              refine r_iret m_143 rfl f_143_58 ?_
              exact ⟨_, rfl, Or.inr (Or.inr ⟨by omega, rfl, rfl⟩), rfl⟩
          · refine r_run 4 (pc' := 53) (ls' := [some (yr 75), some (yi a), some (yi b), some (yi lo), some (yi hi), some (yi 1)]) (st' := [yi 1]) (M' := M) (N' := N) rfl ?_
            refine r_if_ne (pc := 53) f_143_53 (by omega) (fun h53 => ?_) (fun h53 => ?_)
            · refine r_run 3 (pc' := 65) (ls' := [some (yr 75), some (yi a), some (yi b), some (yi lo), some (yi hi), some (yi 1)]) (st' := [yi 8, yi (M 75 2)]) (M' := M) (N' := N) rfl ?_
              refine r_icmp_ne (pc := 65) f_143_65 (by omega) (by omega) (fun h65 => ?_) (fun h65 => ?_)
              · refine r_run 7 (pc' := 82) (ls' := [some (yr 75), some (yi a), some (yi b), some (yi lo), some (yi hi), some (yi 1)]) (st' := [yi a, yi (4 * (M 75 2)), yr 77]) (M' := M) (N' := N) rfl ?_
                refine r_iast (n := 32) f_143_82 (by decide) (by decide) (by decide) (by omega) ?_
                refine r_run 9 (pc' := 96) (ls' := [some (yr 75), some (yi a), some (yi b), some (yi lo), some (yi hi), some (yi 1)]) (st' := [yi b, yi ((4 * (M 75 2)) + 1), yr 77]) (M' := (yu M 77 (4 * (M 75 2)) a)) (N' := N) rfl ?_
                refine r_iast (n := 32) f_143_96 (by decide) (by decide) (by decide) (by omega) ?_
                refine r_run 9 (pc' := 110) (ls' := [some (yr 75), some (yi a), some (yi b), some (yi lo), some (yi hi), some (yi 1)]) (st' := [yi lo, yi ((4 * (M 75 2)) + 2), yr 77]) (M' := (yu (yu M 77 (4 * (M 75 2)) a) 77 ((4 * (M 75 2)) + 1) b)) (N' := N) rfl ?_
                refine r_iast (n := 32) f_143_110 (by decide) (by decide) (by decide) (by omega) ?_
                refine r_run 9 (pc' := 125) (ls' := [some (yr 75), some (yi a), some (yi b), some (yi lo), some (yi hi), some (yi 1)]) (st' := [yi hi, yi ((4 * (M 75 2)) + 3), yr 77]) (M' := (yu (yu (yu M 77 (4 * (M 75 2)) a) 77 ((4 * (M 75 2)) + 1) b) 77 ((4 * (M 75 2)) + 2) lo)) (N' := N) rfl ?_
                refine r_iast (n := 32) f_143_125 (by decide) (by decide) (by decide) (by omega) ?_
                refine r_run 10 (pc' := 142) (ls' := [some (yr 75), some (yi a), some (yi b), some (yi lo), some (yi hi), some (yi 1)]) (st' := [yi (((M 75 2) + 1) - 1)]) (M' := (yu (yu (yu (yu (yu M 77 (4 * (M 75 2)) a) 77 ((4 * (M 75 2)) + 1) b) 77 ((4 * (M 75 2)) + 2) lo) 77 ((4 * (M 75 2)) + 3) hi) 75 2 ((M 75 2) + 1))) (N' := N) rfl ?_
                refine r_iret m_143 rfl f_143_142 ?_
                exact ⟨_, rfl, Or.inl ⟨by omega, by omega, by omega, rfl⟩, rfl⟩
              · refine r_run 1 (pc' := 70) (ls' := [some (yr 75), some (yi a), some (yi b), some (yi lo), some (yi hi), some (yi 1)]) (st' := [yi (-4)]) (M' := M) (N' := N) rfl ?_
                refine r_iret m_143 rfl f_143_70 ?_
                exact ⟨_, rfl, Or.inr (Or.inl ⟨by omega, by omega, rfl, rfl⟩), rfl⟩
            · refine r_run 1 (pc' := 58) (ls' := [some (yr 75), some (yi a), some (yi b), some (yi lo), some (yi hi), some (yi 1)]) (st' := [yi (-2)]) (M' := M) (N' := N) rfl ?_
              refine r_iret m_143 rfl f_143_58 ?_
              exact ⟨_, rfl, Or.inr (Or.inr ⟨by omega, rfl, rfl⟩), rfl⟩
theorem c_linkTold {S : XS} {M N : YM} {x y : Int} (hI : InvL M) (hx : -2147483648 ≤ x ∧ x < 2147483648) (hy : -2147483648 ≤ y ∧ y < 2147483648) : rm S 2 61 [yr 0, yi x, yi y] M N (fun r M' N' => ∃ v : Int, some (yi v) = r ∧ (v = if x < 0 ∨ M 75 2 ≤ x then -5 else if y = 0 then M 77 (4 * x) else if y = 1 then M 77 (4 * x + 1) else if y = 2 then M 77 (4 * x + 2) else if y = 3 then M 77 (4 * x + 3) else -7) ∧ M = M' ∧ N = N') := by
  refine ⟨xe_61, m_61, Nat.le_of_ble_eq_true rfl, ?_⟩
  obtain ⟨g0, g1, -⟩ := id hI
  refine r_run 7 (pc' := 11) (ls' := [some (yr 0), some (yi x), some (yi y), none]) (st' := [yi ((M 1 2) - 1), yi 0, yi x]) (M' := M) (N' := N) rfl ?_
  refine r_static (mj := 90) (as := [yi x, yi 0, yi ((M 1 2) - 1)]) (rest := []) f_61_11 (by decide) rfl m_90 rfl rfl rfl (Nat.le_of_ble_eq_true rfl) (by omega) (c_within (by omega) (by omega) (by omega)) ?_
  rintro _ _ _ ⟨v11, rfl, hv11, rfl, rfl⟩
  refine r_if_ne (pc := 14) f_61_14 (by omega) (fun h14 => ?_) (fun h14 => ?_)
  · refine r_run 3 (pc' := 25) (ls' := [some (yr 0), some (yi x), some (yi y), none]) (st' := [yi x, yr 25]) (M' := M) (N' := N) rfl ?_
    refine r_aald (r := 41 + x) (kd := 100) (n := 8) f_61_25 (by decide) (by decide) (by decide) (by decide) (by omega) (rf_link (by omega)) ?_
    refine r_run 2 (pc' := 28) (ls' := [some (yr 0), some (yi x), some (yi y), some (yr (41 + x))]) (st' := [yi y]) (M' := M) (N' := N) rfl ?_
    rcases (show (y < 0 ∨ 3 < y) ∨ y = 0 ∨ y = 1 ∨ y = 2 ∨ y = 3 by omega) with h28 | h28 | h28 | h28 | h28
    · refine r_sw_out (pc := 28) f_61_28 (by omega) h28 ?_
      refine r_run 1 (pc' := 82) (ls' := [some (yr 0), some (yi x), some (yi y), some (yr (41 + x))]) (st' := [yi (-7)]) (M' := M) (N' := N) rfl ?_
      refine r_iret m_61 rfl f_61_82 ?_
      obtain ⟨⟨e0, e1, e2, e3⟩, -⟩ := hI.2.2 x (by omega) (by omega)
      exact ⟨_, rfl, by rw [if_neg (by omega), if_neg (by omega), if_neg (by omega), if_neg (by omega), if_neg (by omega)], rfl, rfl⟩
    · refine r_sw_in (pc := 28) 0 f_61_28 (by omega) (by omega) (by omega) rfl ?_
      refine r_run 1 (pc' := 61) (ls' := [some (yr 0), some (yi x), some (yi y), some (yr (41 + x))]) (st' := [yr (41 + x)]) (M' := M) (N' := N) rfl ?_
      refine r_getf (n := 4) 0 rfl f_61_61 (by decide) (show xFT[0]? = some (0, 0) from rfl) (by decide) (by omega) (yk_link (by omega)) ?_
      refine r_iret m_61 rfl f_61_64 ?_
      obtain ⟨⟨e0, e1, e2, e3⟩, -⟩ := hI.2.2 x (by omega) (by omega)
      exact ⟨_, rfl, by rw [if_neg (by omega), if_pos (by omega)]; omega, rfl, rfl⟩
    · refine r_sw_in (pc := 28) 1 f_61_28 (by omega) (by omega) (by omega) rfl ?_
      refine r_run 1 (pc' := 66) (ls' := [some (yr 0), some (yi x), some (yi y), some (yr (41 + x))]) (st' := [yr (41 + x)]) (M' := M) (N' := N) rfl ?_
      refine r_getf (n := 4) 1 rfl f_61_66 (by decide) (show xFT[1]? = some (0, 1) from rfl) (by decide) (by omega) (yk_link (by omega)) ?_
      refine r_iret m_61 rfl f_61_69 ?_
      obtain ⟨⟨e0, e1, e2, e3⟩, -⟩ := hI.2.2 x (by omega) (by omega)
      exact ⟨_, rfl, by rw [if_neg (by omega), if_neg (by omega), if_pos (by omega)]; omega, rfl, rfl⟩
    · refine r_sw_in (pc := 28) 2 f_61_28 (by omega) (by omega) (by omega) rfl ?_
      refine r_run 1 (pc' := 71) (ls' := [some (yr 0), some (yi x), some (yi y), some (yr (41 + x))]) (st' := [yr (41 + x)]) (M' := M) (N' := N) rfl ?_
      refine r_getf (n := 4) 2 rfl f_61_71 (by decide) (show xFT[2]? = some (0, 2) from rfl) (by decide) (by omega) (yk_link (by omega)) ?_
      refine r_iret m_61 rfl f_61_74 ?_
      obtain ⟨⟨e0, e1, e2, e3⟩, -⟩ := hI.2.2 x (by omega) (by omega)
      exact ⟨_, rfl, by rw [if_neg (by omega), if_neg (by omega), if_neg (by omega), if_pos (by omega)]; omega, rfl, rfl⟩
    · refine r_sw_in (pc := 28) 3 f_61_28 (by omega) (by omega) (by omega) rfl ?_
      refine r_run 1 (pc' := 76) (ls' := [some (yr 0), some (yi x), some (yi y), some (yr (41 + x))]) (st' := [yr (41 + x)]) (M' := M) (N' := N) rfl ?_
      refine r_getf (n := 4) 3 rfl f_61_76 (by decide) (show xFT[3]? = some (0, 3) from rfl) (by decide) (by omega) (yk_link (by omega)) ?_
      refine r_iret m_61 rfl f_61_79 ?_
      obtain ⟨⟨e0, e1, e2, e3⟩, -⟩ := hI.2.2 x (by omega) (by omega)
      exact ⟨_, rfl, by rw [if_neg (by omega), if_neg (by omega), if_neg (by omega), if_neg (by omega), if_pos (by omega)]; omega, rfl, rfl⟩
  · refine r_run 1 (pc' := 19) (ls' := [some (yr 0), some (yi x), some (yi y), none]) (st' := [yi (-5)]) (M' := M) (N' := N) rfl ?_
    refine r_iret m_61 rfl f_61_19 ?_
    exact ⟨_, rfl, by rw [if_pos (by omega)], rfl, rfl⟩
theorem m_linkTold {S : XS} {M N : YM} {x y : Int} (hI : InvL M) (hx : -2147483648 ≤ x ∧ x < 2147483648) (hy : -2147483648 ≤ y ∧ y < 2147483648) : rm S 2 144 [yr 75, yi x, yi y] M N (fun r M' N' => ∃ v : Int, some (yi v) = r ∧ (v = if x < 0 ∨ M 75 2 ≤ x then -5 else if y = 0 then M 77 (4 * x) else if y = 1 then M 77 (4 * x + 1) else if y = 2 then M 77 (4 * x + 2) else if y = 3 then M 77 (4 * x + 3) else -7) ∧ M = M' ∧ N = N') := by
  refine ⟨xe_144, m_144, Nat.le_of_ble_eq_true rfl, ?_⟩
  obtain ⟨g0, g1, -⟩ := id hI
  refine r_run 6 (pc' := 8) (ls' := [some (yr 75), some (yi x), some (yi y)]) (st' := [yi ((M 75 2) - 1), yi 0, yi x]) (M' := M) (N' := N) rfl ?_
  refine r_static (mj := 112) (as := [yi x, yi 0, yi ((M 75 2) - 1)]) (rest := []) f_144_8 (by decide) rfl m_112 rfl rfl rfl (Nat.le_of_ble_eq_true rfl) (by omega) (m_in (by omega) (by omega) (by omega)) ?_
  rintro _ _ _ ⟨v8, rfl, hv8, rfl, rfl⟩
  refine r_if_ne (pc := 11) f_144_11 (by omega) (fun h11 => ?_) (fun h11 => ?_)
  · refine r_run 3 (pc' := 20) (ls' := [some (yr 75), some (yi x), some (yi y)]) (st' := [yi 3, yi 0, yi y]) (M' := M) (N' := N) rfl ?_
    refine r_static (mj := 112) (as := [yi y, yi 0, yi 3]) (rest := []) f_144_20 (by decide) rfl m_112 rfl rfl rfl (Nat.le_of_ble_eq_true rfl) (by omega) (m_in (by omega) (by omega) (by omega)) ?_
    rintro _ _ _ ⟨v20, rfl, hv20, rfl, rfl⟩
    refine r_if_eq (pc := 23) f_144_23 (by omega) (fun h23 => ?_) (fun h23 => ?_)
    · refine r_run 1 (pc' := 41) (ls' := [some (yr 75), some (yi x), some (yi y)]) (st' := [yi (-7)]) (M' := M) (N' := N) rfl ?_
      refine r_iret m_144 rfl f_144_41 ?_
      exact ⟨_, rfl, by rw [if_neg (by omega), if_neg (by omega), if_neg (by omega), if_neg (by omega), if_neg (by omega)], rfl, rfl⟩
    · refine r_run 7 (pc' := 35) (ls' := [some (yr 75), some (yi x), some (yi y)]) (st' := [yi ((4 * x) + y), yr 77]) (M' := M) (N' := N) rfl ?_
      refine r_iald (n := 32) f_144_35 (by decide) (by decide) (by decide) (by omega) ?_
      refine r_run 1 (pc' := 41) (ls' := [some (yr 75), some (yi x), some (yi y)]) (st' := [yi (M 77 ((4 * x) + y))]) (M' := M) (N' := N) rfl ?_
      refine r_iret m_144 rfl f_144_41 ?_
      rcases (show y = 0 ∨ y = 1 ∨ y = 2 ∨ y = 3 by omega) with rfl | rfl | rfl | rfl
      · exact ⟨_, rfl, by rw [if_neg (by omega), if_pos (by omega)]; rw [Int.add_zero], rfl, rfl⟩
      · exact ⟨_, rfl, by rw [if_neg (by omega), if_neg (by omega), if_pos (by omega)], rfl, rfl⟩
      · exact ⟨_, rfl, by rw [if_neg (by omega), if_neg (by omega), if_neg (by omega), if_pos (by omega)], rfl, rfl⟩
      · exact ⟨_, rfl, by rw [if_neg (by omega), if_neg (by omega), if_neg (by omega), if_neg (by omega), if_pos (by omega)], rfl, rfl⟩
  · refine r_run 1 (pc' := 16) (ls' := [some (yr 75), some (yi x), some (yi y)]) (st' := [yi (-5)]) (M' := M) (N' := N) rfl ?_
    refine r_iret m_144 rfl f_144_16 ?_
    exact ⟨_, rfl, by rw [if_pos (by omega)], rfl, rfl⟩
