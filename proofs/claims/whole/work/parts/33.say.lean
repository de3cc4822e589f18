theorem yu_ne {M : YM} {c k v c' k' : Int} (h : c' ≠ c ∨ k' ≠ k) : yu M c k v c' k' = M c' k' := by
  unfold yu
  rw [if_neg (by omega)]
theorem yu_at {M : YM} {c k v : Int} : yu M c k v c k = v := by
  unfold yu
  rw [if_pos ⟨rfl, rfl⟩]
abbrev sGood (km o lo hi : Int) : Prop := (0 ≤ km ∧ km ≤ 59) ∧ (0 ≤ o ∧ o ≤ 5) ∧ (0 ≤ lo ∧ lo ≤ 999) ∧ lo ≤ hi ∧ hi ≤ 999
/-- a saying more, in the class's cells, in the reference's -/
def cSaid (M : YM) (km o lo hi : Int) : YM := yu (yu (yu (yu (yu (yu M (3 + M 1 1) 0 (km / 10)) (3 + M 1 1) 1 (km % 10)) (3 + M 1 1) 2 o) (3 + M 1 1) 3 lo) (3 + M 1 1) 4 hi) 1 1 (M 1 1 + 1)
def mSaid (M : YM) (km o lo hi : Int) : YM := yu (yu (yu (yu (yu (yu M 76 (5 * M 75 0) (km / 10)) 76 (5 * M 75 0 + 1) o) 76 (5 * M 75 0 + 2) lo) 76 (5 * M 75 0 + 3) hi) 76 (5 * M 75 0 + 4) (km % 10)) 75 0 (M 75 0 + 1)
theorem c_addSaying {S : XS} {M N : YM} {km o lo hi : Int} (hkm : -2147483648 ≤ km ∧ km < 2147483648) (ho : -2147483648 ≤ o ∧ o < 2147483648) (hlo : -2147483648 ≤ lo ∧ lo < 2147483648) (hhi : -2147483648 ≤ hi ∧ hi < 2147483648) (hc : 0 ≤ M 1 1 ∧ M 1 1 ≤ 10) : rm S 2 96 [yr 0, yi km, yi o, yi lo, yi hi] M N (fun r M' N' => ∃ v : Int, some (yi v) = r ∧ ((sGood km o lo hi ∧ M 1 1 < 10 ∧ v = M 1 1 ∧ cSaid M km o lo hi = M') ∨ (sGood km o lo hi ∧ 10 ≤ M 1 1 ∧ v = -4 ∧ M = M') ∨ (¬ sGood km o lo hi ∧ v = -2 ∧ M = M')) ∧ N = N') := by
  refine ⟨xe_96, m_96, Nat.le_of_ble_eq_true rfl, ?_⟩
  refine r_run 3 (pc' := 4) (ls' := [some (yr 0), some (yi km), some (yi o), some (yi lo), some (yi hi)]) (st' := [yi 59, yi 0, yi km]) (M' := M) (N' := N) rfl ?_
  refine r_static (mj := 90) (as := [yi km, yi 0, yi 59]) (rest := []) f_96_4 (by decide) rfl m_90 rfl rfl rfl (Nat.le_of_ble_eq_true rfl) (by omega) (c_within (by omega) (by omega) (by omega)) ?_
  rintro _ _ _ ⟨v4, rfl, hv4, rfl, rfl⟩
  refine r_if_eq (pc := 7) f_96_7 (by omega) (fun h7 => ?_) (fun h7 => ?_)
  · refine r_run 1 (pc' := 48) (ls' := [some (yr 0), some (yi km), some (yi o), some (yi lo), some (yi hi)]) (st' := [yi (-2)]) (M' := M) (N' := N) rfl ?_
    refine r_iret m_96 rfl f_96_48 ?_
    exact ⟨_, rfl, Or.inr (Or.inr ⟨by omega, rfl, rfl⟩), rfl⟩
  · refine r_run 1 (pc' := 11) (ls' := [some (yr 0), some (yi km), some (yi o), some (yi lo), some (yi hi)]) (st' := [yi o]) (M' := M) (N' := N) rfl ?_
    refine r_static (mj := 92) (as := [yi o]) (rest := []) f_96_11 (by decide) rfl m_92 rfl rfl rfl (Nat.le_of_ble_eq_true rfl) (by omega) (c_isQ (by omega)) ?_
    rintro _ _ _ ⟨v11, rfl, hv11, rfl, rfl⟩
    refine r_if_eq (pc := 14) f_96_14 (by omega) (fun h14 => ?_) (fun h14 => ?_)
    · refine r_run 1 (pc' := 48) (ls' := [some (yr 0), some (yi km), some (yi o), some (yi lo), some (yi hi)]) (st' := [yi (-2)]) (M' := M) (N' := N) rfl ?_
      refine r_iret m_96 rfl f_96_48 ?_
      exact ⟨_, rfl, Or.inr (Or.inr ⟨by omega, rfl, rfl⟩), rfl⟩
    · refine r_run 3 (pc' := 22) (ls' := [some (yr 0), some (yi km), some (yi o), some (yi lo), some (yi hi)]) (st' := [yi 999, yi 0, yi lo]) (M' := M) (N' := N) rfl ?_
      refine r_static (mj := 90) (as := [yi lo, yi 0, yi 999]) (rest := []) f_96_22 (by decide) rfl m_90 rfl rfl rfl (Nat.le_of_ble_eq_true rfl) (by omega) (c_within (by omega) (by omega) (by omega)) ?_
      rintro _ _ _ ⟨v22, rfl, hv22, rfl, rfl⟩
      refine r_if_eq (pc := 25) f_96_25 (by omega) (fun h25 => ?_) (fun h25 => ?_)
      · refine r_run 1 (pc' := 48) (ls' := [some (yr 0), some (yi km), some (yi o), some (yi lo), some (yi hi)]) (st' := [yi (-2)]) (M' := M) (N' := N) rfl ?_
        refine r_iret m_96 rfl f_96_48 ?_
        exact ⟨_, rfl, Or.inr (Or.inr ⟨by omega, rfl, rfl⟩), rfl⟩
      · refine r_run 3 (pc' := 34) (ls' := [some (yr 0), some (yi km), some (yi o), some (yi lo), some (yi hi)]) (st' := [yi 999, yi 0, yi hi]) (M' := M) (N' := N) rfl ?_
        refine r_static (mj := 90) (as := [yi hi, yi 0, yi 999]) (rest := []) f_96_34 (by decide) rfl m_90 rfl rfl rfl (Nat.le_of_ble_eq_true rfl) (by omega) (c_within (by omega) (by omega) (by omega)) ?_
        rintro _ _ _ ⟨v34, rfl, hv34, rfl, rfl⟩
        refine r_if_eq (pc := 37) f_96_37 (by omega) (fun h37 => ?_) (fun h37 => ?_)
        · refine r_run 1 (pc' := 48) (ls' := [some (yr 0), some (yi km), some (yi o), some (yi lo), some (yi hi)]) (st' := [yi (-2)]) (M' := M) (N' := N) rfl ?_
          refine r_iret m_96 rfl f_96_48 ?_
          exact ⟨_, rfl, Or.inr (Or.inr ⟨by omega, rfl, rfl⟩), rfl⟩
        · refine r_run 2 (pc' := 43) (ls' := [some (yr 0), some (yi km), some (yi o), some (yi lo), some (yi hi)]) (st' := [yi hi, yi lo]) (M' := M) (N' := N) rfl ?_
          refine r_icmp_le (pc := 43) f_96_43 (by omega) (by omega) (fun h43 => ?_) (fun h43 => ?_)
          · refine r_run 4 (pc' := 58) (ls' := [some (yr 0), some (yi km), some (yi o), some (yi lo), some (yi hi)]) (st' := [yi 10, yi (M 1 1)]) (M' := M) (N' := N) rfl ?_
            refine r_icmp_lt (pc := 58) f_96_58 (by omega) (by omega) (fun h58 => ?_) (fun h58 => ?_)
            · refine r_run 6 (pc' := 78) (ls' := [some (yr 0), some (yi km), some (yi o), some (yi lo), some (yi hi)]) (st' := [yi (M 1 1), yr 2]) (M' := M) (N' := N) rfl ?_
              refine r_aald (r := 3 + M 1 1) (kd := 102) (n := 10) f_96_78 (by decide) (by decide) (by decide) (by decide) (by omega) (rf_say (by omega)) ?_
              refine r_run 4 (pc' := 84) (ls' := [some (yr 0), some (yi km), some (yi o), some (yi lo), some (yi hi)]) (st' := [yi hi, yi lo, yi o, yi km, yr (3 + M 1 1)]) (M' := M) (N' := N) rfl ?_
              refine r_virtual (mj := 22) (b := 3 + M 1 1) (as := [yi km, yi o, yi lo, yi hi]) (rest := []) f_96_84 (by decide) rfl m_22 (by decide) (by omega) (by rw [(yk_say (by omega))]; rfl) rfl rfl (Nat.le_of_ble_eq_true rfl) (by omega) (c_sbecomes (by omega) (yk_say (by omega)) (by omega)) ?_
              rintro _ M2 _ ⟨rfl, hM2, rfl⟩
              have h11 : M2 1 1 = M 1 1 := by
                rw [← hM2]
                rw [yu_ne (by omega), yu_ne (by omega), yu_ne (by omega), yu_ne (by omega), yu_ne (by omega)]
              refine r_run 12 (pc' := 109) (ls' := [some (yr 0), some (yi km), some (yi o), some (yi lo), some (yi hi)]) (st' := [yi (((M2 1 1) + 1) - 1)]) (M' := (yu M2 1 1 ((M2 1 1) + 1))) (N' := N) rfl ?_
              refine r_iret m_96 rfl f_96_109 ?_
              exact ⟨_, rfl, Or.inl ⟨by omega, by omega, by omega, by rw [h11, ← hM2]; rfl⟩, rfl⟩
            · refine r_run 1 (pc' := 63) (ls' := [some (yr 0), some (yi km), some (yi o), some (yi lo), some (yi hi)]) (st' := [yi (-4)]) (M' := M) (N' := N) rfl ?_
              refine r_iret m_96 rfl f_96_63 ?_
              exact ⟨_, rfl, Or.inr (Or.inl ⟨by omega, by omega, rfl, rfl⟩), rfl⟩
          · refine r_run 1 (pc' := 48) (ls' := [some (yr 0), some (yi km), some (yi o), some (yi lo), some (yi hi)]) (st' := [yi (-2)]) (M' := M) (N' := N) rfl ?_
            refine r_iret m_96 rfl f_96_48 ?_
            exact ⟨_, rfl, Or.inr (Or.inr ⟨by omega, rfl, rfl⟩), rfl⟩
theorem c_say {S : XS} {M N : YM} {km o lo hi : Int} (hkm : -2147483648 ≤ km ∧ km < 2147483648) (ho : -2147483648 ≤ o ∧ o < 2147483648) (hlo : -2147483648 ≤ lo ∧ lo < 2147483648) (hhi : -2147483648 ≤ hi ∧ hi < 2147483648) (hc : 0 ≤ M 1 1 ∧ M 1 1 ≤ 10) : rm S 3 57 [yr 0, yi km, yi o, yi lo, yi hi] M N (fun r M' N' => ∃ v : Int, some (yi v) = r ∧ ((sGood km o lo hi ∧ M 1 1 < 10 ∧ v = M 1 1 ∧ cSaid M km o lo hi = M') ∨ (sGood km o lo hi ∧ 10 ≤ M 1 1 ∧ v = -4 ∧ M = M') ∨ (¬ sGood km o lo hi ∧ v = -2 ∧ M = M')) ∧ N = N') := by
  refine ⟨xe_57, m_57, Nat.le_of_ble_eq_true rfl, ?_⟩
  refine r_run 5 (pc' := 6) (ls' := [some (yr 0), some (yi km), some (yi o), some (yi lo), some (yi hi)]) (st' := [yi hi, yi lo, yi o, yi km, yr 0]) (M' := M) (N' := N) rfl ?_
  refine r_virtual (mj := 96) (b := 0) (as := [yi km, yi o, yi lo, yi hi]) (rest := []) f_57_6 (by decide) rfl m_96 (by decide) (by decide) (by decide) rfl rfl (Nat.le_of_ble_eq_true rfl) (by omega) (c_addSaying hkm ho hlo hhi hc) ?_
  rintro _ M2 _ ⟨v, rfl, hv, rfl⟩
  refine r_iret m_57 rfl f_57_9 ?_
  exact ⟨_, rfl, hv, rfl⟩
theorem m_say {S : XS} {M N : YM} {km o lo hi : Int} (hkm : -2147483648 ≤ km ∧ km < 2147483648) (ho : -2147483648 ≤ o ∧ o < 2147483648) (hlo : -2147483648 ≤ lo ∧ lo < 2147483648) (hhi : -2147483648 ≤ hi ∧ hi < 2147483648) (hc : 0 ≤ M 75 0 ∧ M 75 0 ≤ 10) : rm S 2 136 [yr 75, yi km, yi o, yi lo, yi hi] M N (fun r M' N' => ∃ v : Int, some (yi v) = r ∧ ((sGood km o lo hi ∧ M 75 0 < 10 ∧ v = M 75 0 ∧ mSaid M km o lo hi = M') ∨ (sGood km o lo hi ∧ 10 ≤ M 75 0 ∧ v = -4 ∧ M = M') ∨ (¬ sGood km o lo hi ∧ v = -2 ∧ M = M')) ∧ N = N') := by
  refine ⟨xe_136, m_136, Nat.le_of_ble_eq_true rfl, ?_⟩
  refine r_run 3 (pc' := 4) (ls' := [some (yr 75), some (yi km), some (yi o), some (yi lo), some (yi hi), none]) (st' := [yi 59, yi 0, yi km]) (M' := M) (N' := N) rfl ?_
  refine r_static (mj := 112) (as := [yi km, yi 0, yi 59]) (rest := []) f_136_4 (by decide) rfl m_112 rfl rfl rfl (Nat.le_of_ble_eq_true rfl) (by omega) (m_in (by omega) (by omega) (by omega)) ?_
  rintro _ _ _ ⟨v4, rfl, hv4, rfl, rfl⟩
  refine r_if_eq (pc := 7) f_136_7 (by omega) (fun h7 => ?_) (fun h7 => ?_)
  · refine r_run 3 (pc' := 49) (ls' := [some (yr 75), some (yi km), some (yi o), some (yi lo), some (yi hi), some (yi 0)]) (st' := [yi 0]) (M' := M) (N' := N) rfl ?_
    refine r_if_ne (pc := 49) f_136_49 (by omega) (fun h49 => ?_) (fun h49 => ?_)
    · refine r_run 3 (pc' := 61) (ls' := [some (yr 75), some (yi km), some (yi o), some (yi lo), some (yi hi), some (yi 0)]) (st' := [yi 10, yi (M 75 0)]) (M' := M) (N' := N) rfl ?_
      refine r_icmp_ne (pc := 61) f_136_61 (by omega) (by omega) (fun h61 => ?_) (fun h61 => ?_)
      · refine r_run 8 (pc' := 80) (ls' := [some (yr 75), some (yi km), some (yi o), some (yi lo), some (yi hi), some (yi 0)]) (st' := [yi 10, yi km, yi (5 * (M 75 0)), yr 76]) (M' := M) (N' := N) rfl ?_
        refine r_idiv f_136_80 (by omega) (by omega) ?_
        refine r_iast (n := 50) f_136_81 (by decide) (by decide) (by decide) (by omega) ?_
        refine r_run 9 (pc' := 95) (ls' := [some (yr 75), some (yi km), some (yi o), some (yi lo), some (yi hi), some (yi 0)]) (st' := [yi o, yi ((5 * (M 75 0)) + 1), yr 76]) (M' := (yu M 76 (5 * (M 75 0)) (km / 10))) (N' := N) rfl ?_
        refine r_iast (n := 50) f_136_95 (by decide) (by decide) (by decide) (by omega) ?_
        refine r_run 9 (pc' := 109) (ls' := [some (yr 75), some (yi km), some (yi o), some (yi lo), some (yi hi), some (yi 0)]) (st' := [yi lo, yi ((5 * (M 75 0)) + 2), yr 76]) (M' := (yu (yu M 76 (5 * (M 75 0)) (km / 10)) 76 ((5 * (M 75 0)) + 1) o)) (N' := N) rfl ?_
        refine r_iast (n := 50) f_136_109 (by decide) (by decide) (by decide) (by omega) ?_
        refine r_run 9 (pc' := 124) (ls' := [some (yr 75), some (yi km), some (yi o), some (yi lo), some (yi hi), some (yi 0)]) (st' := [yi hi, yi ((5 * (M 75 0)) + 3), yr 76]) (M' := (yu (yu (yu M 76 (5 * (M 75 0)) (km / 10)) 76 ((5 * (M 75 0)) + 1) o) 76 ((5 * (M 75 0)) + 2) lo)) (N' := N) rfl ?_
        refine r_iast (n := 50) f_136_124 (by decide) (by decide) (by decide) (by omega) ?_
        refine r_run 10 (pc' := 140) (ls' := [some (yr 75), some (yi km), some (yi o), some (yi lo), some (yi hi), some (yi 0)]) (st' := [yi 10, yi km, yi ((5 * (M 75 0)) + 4), yr 76]) (M' := (yu (yu (yu (yu M 76 (5 * (M 75 0)) (km / 10)) 76 ((5 * (M 75 0)) + 1) o) 76 ((5 * (M 75 0)) + 2) lo) 76 ((5 * (M 75 0)) + 3) hi)) (N' := N) rfl ?_
        refine r_irem f_136_140 (by omega) (by omega) ?_
        refine r_iast (n := 50) f_136_141 (by decide) (by decide) (by decide) (by omega) ?_
        refine r_run 10 (pc' := 158) (ls' := [some (yr 75), some (yi km), some (yi o), some (yi lo), some (yi hi), some (yi 0)]) (st' := [yi (((M 75 0) + 1) - 1)]) (M' := (yu (yu (yu (yu (yu (yu M 76 (5 * (M 75 0)) (km / 10)) 76 ((5 * (M 75 0)) + 1) o) 76 ((5 * (M 75 0)) + 2) lo) 76 ((5 * (M 75 0)) + 3) hi) 76 ((5 * (M 75 0)) + 4) (km % 10)) 75 0 ((M 75 0) + 1))) (N' := N) rfl ?_
        refine r_iret m_136 rfl f_136_158 ?_
        exact ⟨_, rfl, Or.inl ⟨by omega, by omega, by omega, rfl⟩, rfl⟩
      · refine r_run 1 (pc' := 66) (ls' := [some (yr 75), some (yi km), some (yi o), some (yi lo), some (yi hi), some (yi 0)]) (st' := [yi (-4)]) (M' := M) (N' := N) rfl ?_
        refine r_iret m_136 rfl f_136_66 ?_
        exact ⟨_, rfl, Or.inr (Or.inl ⟨by omega, by omega, rfl, rfl⟩), rfl⟩
    · refine r_run 1 (pc' := 54) (ls' := [some (yr 75), some (yi km), some (yi o), some (yi lo), some (yi hi), some (yi 0)]) (st' := [yi (-2)]) (M' := M) (N' := N) rfl ?_
      refine r_iret m_136 rfl f_136_54 ?_
      exact ⟨_, rfl, Or.inr (Or.inr ⟨by omega, rfl, rfl⟩), rfl⟩
  · refine r_run 1 (pc' := 11) (ls' := [some (yr 75), some (yi km), some (yi o), some (yi lo), some (yi hi), none]) (st' := [yi o]) (M' := M) (N' := N) rfl ?_
    refine r_static (mj := 115) (as := [yi o]) (rest := []) f_136_11 (by decide) rfl m_115 rfl rfl rfl (Nat.le_of_ble_eq_true rfl) (by omega) (m_isOne (by omega)) ?_
    rintro _ _ _ ⟨v11, rfl, hv11, rfl, rfl⟩
    refine r_if_eq (pc := 14) f_136_14 (by omega) (fun h14 => ?_) (fun h14 => ?_)
    · refine r_run 3 (pc' := 49) (ls' := [some (yr 75), some (yi km), some (yi o), some (yi lo), some (yi hi), some (yi 0)]) (st' := [yi 0]) (M' := M) (N' := N) rfl ?_
      refine r_if_ne (pc := 49) f_136_49 (by omega) (fun h49 => ?_) (fun h49 => ?_)
      · refine r_run 3 (pc' := 61) (ls' := [some (yr 75), some (yi km), some (yi o), some (yi lo), some (yi hi), some (yi 0)]) (st' := [yi 10, yi (M 75 0)]) (M' := M) (N' := N) rfl ?_
        refine r_icmp_ne (pc := 61) f_136_61 (by omega) (by omega) (fun h61 => ?_) (fun h61 => ?_)
        · refine r_run 8 (pc' := 80) (ls' := [some (yr 75), some (yi km), some (yi o), some (yi lo), some (yi hi), some (yi 0)]) (st' := [yi 10, yi km, yi (5 * (M 75 0)), yr 76]) (M' := M) (N' := N) rfl ?_
          refine r_idiv f_136_80 (by omega) (by omega) ?_
          refine r_iast (n := 50) f_136_81 (by decide) (by decide) (by decide) (by omega) ?_
          refine r_run 9 (pc' := 95) (ls' := [some (yr 75), some (yi km), some (yi o), some (yi lo), some (yi hi), some (yi 0)]) (st' := [yi o, yi ((5 * (M 75 0)) + 1), yr 76]) (M' := (yu M 76 (5 * (M 75 0)) (km / 10))) (N' := N) rfl ?_
          refine r_iast (n := 50) f_136_95 (by decide) (by decide) (by decide) (by omega) ?_
          refine r_run 9 (pc' := 109) (ls' := [some (yr 75), some (yi km), some (yi o), some (yi lo), some (yi hi), some (yi 0)]) (st' := [yi lo, yi ((5 * (M 75 0)) + 2), yr 76]) (M' := (yu (yu M 76 (5 * (M 75 0)) (km / 10)) 76 ((5 * (M 75 0)) + 1) o)) (N' := N) rfl ?_
          refine r_iast (n := 50) f_136_109 (by decide) (by decide) (by decide) (by omega) ?_
          refine r_run 9 (pc' := 124) (ls' := [some (yr 75), some (yi km), some (yi o), some (yi lo), some (yi hi), some (yi 0)]) (st' := [yi hi, yi ((5 * (M 75 0)) + 3), yr 76]) (M' := (yu (yu (yu M 76 (5 * (M 75 0)) (km / 10)) 76 ((5 * (M 75 0)) + 1) o) 76 ((5 * (M 75 0)) + 2) lo)) (N' := N) rfl ?_
          refine r_iast (n := 50) f_136_124 (by decide) (by decide) (by decide) (by omega) ?_
          refine r_run 10 (pc' := 140) (ls' := [some (yr 75), some (yi km), some (yi o), some (yi lo), some (yi hi), some (yi 0)]) (st' := [yi 10, yi km, yi ((5 * (M 75 0)) + 4), yr 76]) (M' := (yu (yu (yu (yu M 76 (5 * (M 75 0)) (km / 10)) 76 ((5 * (M 75 0)) + 1) o) 76 ((5 * (M 75 0)) + 2) lo) 76 ((5 * (M 75 0)) + 3) hi)) (N' := N) rfl ?_
          refine r_irem f_136_140 (by omega) (by omega) ?_
          refine r_iast (n := 50) f_136_141 (by decide) (by decide) (by decide) (by omega) ?_
          refine r_run 10 (pc' := 158) (ls' := [some (yr 75), some (yi km), some (yi o), some (yi lo), some (yi hi), some (yi 0)]) (st' := [yi (((M 75 0) + 1) - 1)]) (M' := (yu (yu (yu (yu (yu (yu M 76 (5 * (M 75 0)) (km / 10)) 76 ((5 * (M 75 0)) + 1) o) 76 ((5 * (M 75 0)) + 2) lo) 76 ((5 * (M 75 0)) + 3) hi) 76 ((5 * (M 75 0)) + 4) (km % 10)) 75 0 ((M 75 0) + 1))) (N' := N) rfl ?_
          refine r_iret m_136 rfl f_136_158 ?_
          exact ⟨_, rfl, Or.inl ⟨by omega, by omega, by omega, rfl⟩, rfl⟩
        · refine r_run 1 (pc' := 66) (ls' := [some (yr 75), some (yi km), some (yi o), some (yi lo), some (yi hi), some (yi 0)]) (st' := [yi (-4)]) (M' := M) (N' := N) rfl ?_
          refine r_iret m_136 rfl f_136_66 ?_
          exact ⟨_, rfl, Or.inr (Or.inl ⟨by omega, by omega, rfl, rfl⟩), rfl⟩
      · refine r_run 1 (pc' := 54) (ls' := [some (yr 75), some (yi km), some (yi o), some (yi lo), some (yi hi), some (yi 0)]) (st' := [yi (-2)]) (M' := M) (N' := N) rfl ?_
        refine r_iret m_136 rfl f_136_54 ?_
        exact ⟨_, rfl, Or.inr (Or.inr ⟨by omega, rfl, rfl⟩), rfl⟩
    · refine r_run 3 (pc' := 22) (ls' := [some (yr 75), some (yi km), some (yi o), some (yi lo), some (yi hi), none]) (st' := [yi 999, yi 0, yi lo]) (M' := M) (N' := N) rfl ?_
      refine r_static (mj := 112) (as := [yi lo, yi 0, yi 999]) (rest := []) f_136_22 (by decide) rfl m_112 rfl rfl rfl (Nat.le_of_ble_eq_true rfl) (by omega) (m_in (by omega) (by omega) (by omega)) ?_
      rintro _ _ _ ⟨v22, rfl, hv22, rfl, rfl⟩
      refine r_if_eq (pc := 25) f_136_25 (by omega) (fun h25 => ?_) (fun h25 => ?_)
      · refine r_run 3 (pc' := 49) (ls' := [some (yr 75), some (yi km), some (yi o), some (yi lo), some (yi hi), some (yi 0)]) (st' := [yi 0]) (M' := M) (N' := N) rfl ?_
        refine r_if_ne (pc := 49) f_136_49 (by omega) (fun h49 => ?_) (fun h49 => ?_)
        · refine r_run 3 (pc' := 61) (ls' := [some (yr 75), some (yi km), some (yi o), some (yi lo), some (yi hi), some (yi 0)]) (st' := [yi 10, yi (M 75 0)]) (M' := M) (N' := N) rfl ?_
          refine r_icmp_ne (pc := 61) f_136_61 (by omega) (by omega) (fun h61 => ?_) (fun h61 => ?_)
          · refine r_run 8 (pc' := 80) (ls' := [some (yr 75), some (yi km), some (yi o), some (yi lo), some (yi hi), some (yi 0)]) (st' := [yi 10, yi km, yi (5 * (M 75 0)), yr 76]) (M' := M) (N' := N) rfl ?_
            refine r_idiv f_136_80 (by omega) (by omega) ?_
            refine r_iast (n := 50) f_136_81 (by decide) (by decide) (by decide) (by omega) ?_
            refine r_run 9 (pc' := 95) (ls' := [some (yr 75), some (yi km), some (yi o), some (yi lo), some (yi hi), some (yi 0)]) (st' := [yi o, yi ((5 * (M 75 0)) + 1), yr 76]) (M' := (yu M 76 (5 * (M 75 0)) (km / 10))) (N' := N) rfl ?_
            refine r_iast (n := 50) f_136_95 (by decide) (by decide) (by decide) (by omega) ?_
            refine r_run 9 (pc' := 109) (ls' := [some (yr 75), some (yi km), some (yi o), some (yi lo), some (yi hi), some (yi 0)]) (st' := [yi lo, yi ((5 * (M 75 0)) + 2), yr 76]) (M' := (yu (yu M 76 (5 * (M 75 0)) (km / 10)) 76 ((5 * (M 75 0)) + 1) o)) (N' := N) rfl ?_
            refine r_iast (n := 50) f_136_109 (by decide) (by decide) (by decide) (by omega) ?_
            refine r_run 9 (pc' := 124) (ls' := [some (yr 75), some (yi km), some (yi o), some (yi lo), some (yi hi), some (yi 0)]) (st' := [yi hi, yi ((5 * (M 75 0)) + 3), yr 76]) (M' := (yu (yu (yu M 76 (5 * (M 75 0)) (km / 10)) 76 ((5 * (M 75 0)) + 1) o) 76 ((5 * (M 75 0)) + 2) lo)) (N' := N) rfl ?_
            refine r_iast (n := 50) f_136_124 (by decide) (by decide) (by decide) (by omega) ?_
            refine r_run 10 (pc' := 140) (ls' := [some (yr 75), some (yi km), some (yi o), some (yi lo), some (yi hi), some (yi 0)]) (st' := [yi 10, yi km, yi ((5 * (M 75 0)) + 4), yr 76]) (M' := (yu (yu (yu (yu M 76 (5 * (M 75 0)) (km / 10)) 76 ((5 * (M 75 0)) + 1) o) 76 ((5 * (M 75 0)) + 2) lo) 76 ((5 * (M 75 0)) + 3) hi)) (N' := N) rfl ?_
            refine r_irem f_136_140 (by omega) (by omega) ?_
            refine r_iast (n := 50) f_136_141 (by decide) (by decide) (by decide) (by omega) ?_
            refine r_run 10 (pc' := 158) (ls' := [some (yr 75), some (yi km), some (yi o), some (yi lo), some (yi hi), some (yi 0)]) (st' := [yi (((M 75 0) + 1) - 1)]) (M' := (yu (yu (yu (yu (yu (yu M 76 (5 * (M 75 0)) (km / 10)) 76 ((5 * (M 75 0)) + 1) o) 76 ((5 * (M 75 0)) + 2) lo) 76 ((5 * (M 75 0)) + 3) hi) 76 ((5 * (M 75 0)) + 4) (km % 10)) 75 0 ((M 75 0) + 1))) (N' := N) rfl ?_
            refine r_iret m_136 rfl f_136_158 ?_
            exact ⟨_, rfl, Or.inl ⟨by omega, by omega, by omega, rfl⟩, rfl⟩
          · refine r_run 1 (pc' := 66) (ls' := [some (yr 75), some (yi km), some (yi o), some (yi lo), some (yi hi), some (yi 0)]) (st' := [yi (-4)]) (M' := M) (N' := N) rfl ?_
            refine r_iret m_136 rfl f_136_66 ?_
            exact ⟨_, rfl, Or.inr (Or.inl ⟨by omega, by omega, rfl, rfl⟩), rfl⟩
        · refine r_run 1 (pc' := 54) (ls' := [some (yr 75), some (yi km), some (yi o), some (yi lo), some (yi hi), some (yi 0)]) (st' := [yi (-2)]) (M' := M) (N' := N) rfl ?_
          refine r_iret m_136 rfl f_136_54 ?_
          exact ⟨_, rfl, Or.inr (Or.inr ⟨by omega, rfl, rfl⟩), rfl⟩
      · refine r_run 3 (pc' := 34) (ls' := [some (yr 75), some (yi km), some (yi o), some (yi lo), some (yi hi), none]) (st' := [yi 999, yi lo, yi hi]) (M' := M) (N' := N) rfl ?_
        refine r_static (mj := 112) (as := [yi hi, yi lo, yi 999]) (rest := []) f_136_34 (by decide) rfl m_112 rfl rfl rfl (Nat.le_of_ble_eq_true rfl) (by omega) (m_in (by omega) (by omega) (by omega)) ?_
        rintro _ _ _ ⟨v34, rfl, hv34, rfl, rfl⟩
        refine r_if_eq (pc := 37) f_136_37 (by omega) (fun h37 => ?_) (fun h37 => ?_)
        · refine r_run 3 (pc' := 49) (ls' := [some (yr 75), some (yi km), some (yi o), some (yi lo), some (yi hi), some (yi 0)]) (st' := [yi 0]) (M' := M) (N' := N) rfl ?_
          refine r_if_ne (pc := 49) f_136_49 (by omega) (fun h49 => ?_) (fun h49 => ?_)
          · refine r_run 3 (pc' := 61) (ls' := [some (yr 75), some (yi km), some (yi o), some (yi lo), some (yi hi), some (yi 0)]) (st' := [yi 10, yi (M 75 0)]) (M' := M) (N' := N) rfl ?_
            refine r_icmp_ne (pc := 61) f_136_61 (by omega) (by omega) (fun h61 => ?_) (fun h61 => ?_)
            · refine r_run 8 (pc' := 80) (ls' := [some (yr 75), some (yi km), some (yi o), some (yi lo), some (yi hi), some (yi 0)]) (st' := [yi 10, yi km, yi (5 * (M 75 0)), yr 76]) (M' := M) (N' := N) rfl ?_
              refine r_idiv f_136_80 (by omega) (by omega) ?_
              refine r_iast (n := 50) f_136_81 (by decide) (by decide) (by decide) (by omega) ?_
              refine r_run 9 (pc' := 95) (ls' := [some (yr 75), some (yi km), some (yi o), some (yi lo), some (yi hi), some (yi 0)]) (st' := [yi o, yi ((5 * (M 75 0)) + 1), yr 76]) (M' := (yu M 76 (5 * (M 75 0)) (km / 10))) (N' := N) rfl ?_
              refine r_iast (n := 50) f_136_95 (by decide) (by decide) (by decide) (by omega) ?_
              refine r_run 9 (pc' := 109) (ls' := [some (yr 75), some (yi km), some (yi o), some (yi lo), some (yi hi), some (yi 0)]) (st' := [yi lo, yi ((5 * (M 75 0)) + 2), yr 76]) (M' := (yu (yu M 76 (5 * (M 75 0)) (km / 10)) 76 ((5 * (M 75 0)) + 1) o)) (N' := N) rfl ?_
              refine r_iast (n := 50) f_136_109 (by decide) (by decide) (by decide) (by omega) ?_
              refine r_run 9 (pc' := 124) (ls' := [some (yr 75), some (yi km), some (yi o), some (yi lo), some (yi hi), some (yi 0)]) (st' := [yi hi, yi ((5 * (M 75 0)) + 3), yr 76]) (M' := (yu (yu (yu M 76 (5 * (M 75 0)) (km / 10)) 76 ((5 * (M 75 0)) + 1) o) 76 ((5 * (M 75 0)) + 2) lo)) (N' := N) rfl ?_
              refine r_iast (n := 50) f_136_124 (by decide) (by decide) (by decide) (by omega) ?_
              refine r_run 10 (pc' := 140) (ls' := [some (yr 75), some (yi km), some (yi o), some (yi lo), some (yi hi), some (yi 0)]) (st' := [yi 10, yi km, yi ((5 * (M 75 0)) + 4), yr 76]) (M' := (yu (yu (yu (yu M 76 (5 * (M 75 0)) (km / 10)) 76 ((5 * (M 75 0)) + 1) o) 76 ((5 * (M 75 0)) + 2) lo) 76 ((5 * (M 75 0)) + 3) hi)) (N' := N) rfl ?_
              refine r_irem f_136_140 (by omega) (by omega) ?_
              refine r_iast (n := 50) f_136_141 (by decide) (by decide) (by decide) (by omega) ?_
              refine r_run 10 (pc' := 158) (ls' := [some (yr 75), some (yi km), some (yi o), some (yi lo), some (yi hi), some (yi 0)]) (st' := [yi (((M 75 0) + 1) - 1)]) (M' := (yu (yu (yu (yu (yu (yu M 76 (5 * (M 75 0)) (km / 10)) 76 ((5 * (M 75 0)) + 1) o) 76 ((5 * (M 75 0)) + 2) lo) 76 ((5 * (M 75 0)) + 3) hi) 76 ((5 * (M 75 0)) + 4) (km % 10)) 75 0 ((M 75 0) + 1))) (N' := N) rfl ?_
              refine r_iret m_136 rfl f_136_158 ?_
              exact ⟨_, rfl, Or.inl ⟨by omega, by omega, by omega, rfl⟩, rfl⟩
            · refine r_run 1 (pc' := 66) (ls' := [some (yr 75), some (yi km), some (yi o), some (yi lo), some (yi hi), some (yi 0)]) (st' := [yi (-4)]) (M' := M) (N' := N) rfl ?_
              refine r_iret m_136 rfl f_136_66 ?_
              exact ⟨_, rfl, Or.inr (Or.inl ⟨by omega, by omega, rfl, rfl⟩), rfl⟩
          · refine r_run 1 (pc' := 54) (ls' := [some (yr 75), some (yi km), some (yi o), some (yi lo), some (yi hi), some (yi 0)]) (st' := [yi (-2)]) (M' := M) (N' := N) rfl ?_
            refine r_iret m_136 rfl f_136_54 ?_
            exact ⟨_, rfl, Or.inr (Or.inr ⟨by omega, rfl, rfl⟩), rfl⟩
        · refine r_run 4 (pc' := 49) (ls' := [some (yr 75), some (yi km), some (yi o), some (yi lo), some (yi hi), some (yi 1)]) (st' := [yi 1]) (M' := M) (N' := N) rfl ?_
          refine r_if_ne (pc := 49) f_136_49 (by omega) (fun h49 => ?_) (fun h49 => ?_)
          · refine r_run 3 (pc' := 61) (ls' := [some (yr 75), some (yi km), some (yi o), some (yi lo), some (yi hi), some (yi 1)]) (st' := [yi 10, yi (M 75 0)]) (M' := M) (N' := N) rfl ?_
            refine r_icmp_ne (pc := 61) f_136_61 (by omega) (by omega) (fun h61 => ?_) (fun h61 => ?_)
            · refine r_run 8 (pc' := 80) (ls' := [some (yr 75), some (yi km), some (yi o), some (yi lo), some (yi hi), some (yi 1)]) (st' := [yi 10, yi km, yi (5 * (M 75 0)), yr 76]) (M' := M) (N' := N) rfl ?_
              refine r_idiv f_136_80 (by omega) (by omega) ?_
              refine r_iast (n := 50) f_136_81 (by decide) (by decide) (by decide) (by omega) ?_
              refine r_run 9 (pc' := 95) (ls' := [some (yr 75), some (yi km), some (yi o), some (yi lo), some (yi hi), some (yi 1)]) (st' := [yi o, yi ((5 * (M 75 0)) + 1), yr 76]) (M' := (yu M 76 (5 * (M 75 0)) (km / 10))) (N' := N) rfl ?_
              refine r_iast (n := 50) f_136_95 (by decide) (by decide) (by decide) (by omega) ?_
              refine r_run 9 (pc' := 109) (ls' := [some (yr 75), some (yi km), some (yi o), some (yi lo), some (yi hi), some (yi 1)]) (st' := [yi lo, yi ((5 * (M 75 0)) + 2), yr 76]) (M' := (yu (yu M 76 (5 * (M 75 0)) (km / 10)) 76 ((5 * (M 75 0)) + 1) o)) (N' := N) rfl ?_
              refine r_iast (n := 50) f_136_109 (by decide) (by decide) (by decide) (by omega) ?_
              refine r_run 9 (pc' := 124) (ls' := [some (yr 75), some (yi km), some (yi o), some (yi lo), some (yi hi), some (yi 1)]) (st' := [yi hi, yi ((5 * (M 75 0)) + 3), yr 76]) (M' := (yu (yu (yu M 76 (5 * (M 75 0)) (km / 10)) 76 ((5 * (M 75 0)) + 1) o) 76 ((5 * (M 75 0)) + 2) lo)) (N' := N) rfl ?_
              refine r_iast (n := 50) f_136_124 (by decide) (by decide) (by decide) (by omega) ?_
              refine r_run 10 (pc' := 140) (ls' := [some (yr 75), some (yi km), some (yi o), some (yi lo), some (yi hi), some (yi 1)]) (st' := [yi 10, yi km, yi ((5 * (M 75 0)) + 4), yr 76]) (M' := (yu (yu (yu (yu M 76 (5 * (M 75 0)) (km / 10)) 76 ((5 * (M 75 0)) + 1) o) 76 ((5 * (M 75 0)) + 2) lo) 76 ((5 * (M 75 0)) + 3) hi)) (N' := N) rfl ?_
              refine r_irem f_136_140 (by omega) (by omega) ?_
              refine r_iast (n := 50) f_136_141 (by decide) (by decide) (by decide) (by omega) ?_
              refine r_run 10 (pc' := 158) (ls' := [some (yr 75), some (yi km), some (yi o), some (yi lo), some (yi hi), some (yi 1)]) (st' := [yi (((M 75 0) + 1) - 1)]) (M' := (yu (yu (yu (yu (yu (yu M 76 (5 * (M 75 0)) (km / 10)) 76 ((5 * (M 75 0)) + 1) o) 76 ((5 * (M 75 0)) + 2) lo) 76 ((5 * (M 75 0)) + 3) hi) 76 ((5 * (M 75 0)) + 4) (km % 10)) 75 0 ((M 75 0) + 1))) (N' := N) rfl ?_
              refine r_iret m_136 rfl f_136_158 ?_
              exact ⟨_, rfl, Or.inl ⟨by omega, by omega, by omega, rfl⟩, rfl⟩
            · refine r_run 1 (pc' := 66) (ls' := [some (yr 75), some (yi km), some (yi o), some (yi lo), some (yi hi), some (yi 1)]) (st' := [yi (-4)]) (M' := M) (N' := N) rfl ?_
              refine r_iret m_136 rfl f_136_66 ?_
              exact ⟨_, rfl, Or.inr (Or.inl ⟨by omega, by omega, rfl, rfl⟩), rfl⟩
          · refine r_run 1 (pc' := 54) (ls' := [some (yr 75), some (yi km), some (yi o), some (yi lo), some (yi hi), some (yi 1)]) (st' := [yi (-2)]) (M' := M) (N' := N) rfl ?_
            refine r_iret m_136 rfl f_136_54 ?_
            exact ⟨_, rfl, Or.inr (Or.inr ⟨by omega, rfl, rfl⟩), rfl⟩
