theorem c_within {S : XS} {M N : YM} {x lo hi : Int} (hx : -2147483648 ≤ x ∧ x < 2147483648) (hlo : -2147483648 ≤ lo ∧ lo < 2147483648) (hhi : -2147483648 ≤ hi ∧ hi < 2147483648) : rm S 0 90 [yi x, yi lo, yi hi] M N (fun r M' N' => ∃ v : Int, some (yi v) = r ∧ ((v = 1 ∧ lo ≤ x ∧ x ≤ hi) ∨ (v = 0 ∧ (x < lo ∨ hi < x))) ∧ M = M' ∧ N = N') := by
  refine ⟨xe_90, m_90, Nat.le_of_ble_eq_true rfl, ?_⟩
  refine r_run 2 (pc' := 2) (ls' := [some (yi x), some (yi lo), some (yi hi)]) (st' := [yi x, yi lo]) (M' := M) (N' := N) rfl ?_
  refine r_icmp_gt (pc := 2) f_90_2 (by omega) (by omega) (fun h2 => ?_) (fun h2 => ?_)
  · refine r_run 1 (pc' := 15) (ls' := [some (yi x), some (yi lo), some (yi hi)]) (st' := [yi 0]) (M' := M) (N' := N) rfl ?_
    refine r_zret m_90 rfl f_90_15 (by omega) ?_
    exact ⟨_, rfl, by omega, rfl, rfl⟩
  · refine r_run 2 (pc' := 7) (ls' := [some (yi x), some (yi lo), some (yi hi)]) (st' := [yi hi, yi x]) (M' := M) (N' := N) rfl ?_
    refine r_icmp_gt (pc := 7) f_90_7 (by omega) (by omega) (fun h7 => ?_) (fun h7 => ?_)
    · refine r_run 1 (pc' := 15) (ls' := [some (yi x), some (yi lo), some (yi hi)]) (st' := [yi 0]) (M' := M) (N' := N) rfl ?_
      refine r_zret m_90 rfl f_90_15 (by omega) ?_
      exact ⟨_, rfl, by omega, rfl, rfl⟩
    · refine r_run 2 (pc' := 15) (ls' := [some (yi x), some (yi lo), some (yi hi)]) (st' := [yi 1]) (M' := M) (N' := N) rfl ?_
      refine r_zret m_90 rfl f_90_15 (by omega) ?_
      exact ⟨_, rfl, by omega, rfl, rfl⟩
theorem m_in {S : XS} {M N : YM} {x lo hi : Int} (hx : -2147483648 ≤ x ∧ x < 2147483648) (hlo : -2147483648 ≤ lo ∧ lo < 2147483648) (hhi : -2147483648 ≤ hi ∧ hi < 2147483648) : rm S 0 112 [yi x, yi lo, yi hi] M N (fun r M' N' => ∃ v : Int, some (yi v) = r ∧ ((v = 1 ∧ lo ≤ x ∧ x ≤ hi) ∨ (v = 0 ∧ (x < lo ∨ hi < x))) ∧ M = M' ∧ N = N') := by
  refine ⟨xe_112, m_112, Nat.le_of_ble_eq_true rfl, ?_⟩
  refine r_run 2 (pc' := 2) (ls' := [some (yi x), some (yi lo), some (yi hi)]) (st' := [yi lo, yi x]) (M' := M) (N' := N) rfl ?_
  refine r_icmp_lt (pc := 2) f_112_2 (by omega) (by omega) (fun h2 => ?_) (fun h2 => ?_)
  · refine r_run 1 (pc' := 15) (ls' := [some (yi x), some (yi lo), some (yi hi)]) (st' := [yi 0]) (M' := M) (N' := N) rfl ?_
    refine r_zret m_112 rfl f_112_15 (by omega) ?_
    exact ⟨_, rfl, by omega, rfl, rfl⟩
  · refine r_run 2 (pc' := 7) (ls' := [some (yi x), some (yi lo), some (yi hi)]) (st' := [yi hi, yi x]) (M' := M) (N' := N) rfl ?_
    refine r_icmp_gt (pc := 7) f_112_7 (by omega) (by omega) (fun h7 => ?_) (fun h7 => ?_)
    · refine r_run 1 (pc' := 15) (ls' := [some (yi x), some (yi lo), some (yi hi)]) (st' := [yi 0]) (M' := M) (N' := N) rfl ?_
      refine r_zret m_112 rfl f_112_15 (by omega) ?_
      exact ⟨_, rfl, by omega, rfl, rfl⟩
    · refine r_run 2 (pc' := 15) (ls' := [some (yi x), some (yi lo), some (yi hi)]) (st' := [yi 1]) (M' := M) (N' := N) rfl ?_
      refine r_zret m_112 rfl f_112_15 (by omega) ?_
      exact ⟨_, rfl, by omega, rfl, rfl⟩
theorem m_within {S : XS} {M N : YM} {x lo hi : Int} (hx : -2147483648 ≤ x ∧ x < 2147483648) (hlo : -2147483648 ≤ lo ∧ lo < 2147483648) (hhi : -2147483648 ≤ hi ∧ hi < 2147483648) : rm S 0 113 [yi x, yi lo, yi hi] M N (fun r M' N' => ∃ v : Int, some (yi v) = r ∧ ((x < lo ∧ v = lo) ∨ (lo ≤ x ∧ hi < x ∧ v = hi) ∨ (lo ≤ x ∧ x ≤ hi ∧ v = x)) ∧ M = M' ∧ N = N') := by
  refine ⟨xe_113, m_113, Nat.le_of_ble_eq_true rfl, ?_⟩
  refine r_run 2 (pc' := 2) (ls' := [some (yi x), some (yi lo), some (yi hi)]) (st' := [yi lo, yi x]) (M' := M) (N' := N) rfl ?_
  refine r_icmp_ge (pc := 2) f_113_2 (by omega) (by omega) (fun h2 => ?_) (fun h2 => ?_)
  · refine r_run 2 (pc' := 11) (ls' := [some (yi x), some (yi lo), some (yi hi)]) (st' := [yi hi, yi x]) (M' := M) (N' := N) rfl ?_
    refine r_icmp_le (pc := 11) f_113_11 (by omega) (by omega) (fun h11 => ?_) (fun h11 => ?_)
    · refine r_run 1 (pc' := 19) (ls' := [some (yi x), some (yi lo), some (yi hi)]) (st' := [yi x]) (M' := M) (N' := N) rfl ?_
      refine r_iret m_113 rfl f_113_19 ?_
      exact ⟨_, rfl, by omega, rfl, rfl⟩
    · refine r_run 2 (pc' := 19) (ls' := [some (yi x), some (yi lo), some (yi hi)]) (st' := [yi hi]) (M' := M) (N' := N) rfl ?_
      refine r_iret m_113 rfl f_113_19 ?_
      exact ⟨_, rfl, by omega, rfl, rfl⟩
  · refine r_run 2 (pc' := 19) (ls' := [some (yi x), some (yi lo), some (yi hi)]) (st' := [yi lo]) (M' := M) (N' := N) rfl ?_
    refine r_iret m_113 rfl f_113_19 ?_
    exact ⟨_, rfl, by omega, rfl, rfl⟩
theorem c_isByte {S : XS} {M N : YM} {x : Int} (hx : -2147483648 ≤ x ∧ x < 2147483648) : rm S 1 91 [yi x] M N (fun r M' N' => ∃ v : Int, some (yi v) = r ∧ ((v = 1 ∧ 0 ≤ x ∧ x ≤ 255) ∨ (v = 0 ∧ (x < 0 ∨ 255 < x))) ∧ M = M' ∧ N = N') := by
  refine ⟨xe_91, m_91, Nat.le_of_ble_eq_true rfl, ?_⟩
  refine r_run 3 (pc' := 5) (ls' := [some (yi x)]) (st' := [yi 255, yi 0, yi x]) (M' := M) (N' := N) rfl ?_
  refine r_static (mj := 90) (as := [yi x, yi 0, yi 255]) (rest := []) f_91_5 (by decide) rfl m_90 rfl rfl rfl (Nat.le_of_ble_eq_true rfl) (by omega) (c_within (by omega) (by omega) (by omega)) ?_
  rintro _ _ _ ⟨v5, rfl, hv5, rfl, rfl⟩
  refine r_zret m_91 rfl f_91_8 (by omega) ?_
  exact ⟨_, rfl, by omega, rfl, rfl⟩
theorem c_isQ {S : XS} {M N : YM} {x : Int} (hx : -2147483648 ≤ x ∧ x < 2147483648) : rm S 1 92 [yi x] M N (fun r M' N' => ∃ v : Int, some (yi v) = r ∧ ((v = 1 ∧ 0 ≤ x ∧ x ≤ 5) ∨ (v = 0 ∧ (x < 0 ∨ 5 < x))) ∧ M = M' ∧ N = N') := by
  refine ⟨xe_92, m_92, Nat.le_of_ble_eq_true rfl, ?_⟩
  refine r_run 3 (pc' := 3) (ls' := [some (yi x)]) (st' := [yi 5, yi 0, yi x]) (M' := M) (N' := N) rfl ?_
  refine r_static (mj := 90) (as := [yi x, yi 0, yi 5]) (rest := []) f_92_3 (by decide) rfl m_90 rfl rfl rfl (Nat.le_of_ble_eq_true rfl) (by omega) (c_within (by omega) (by omega) (by omega)) ?_
  rintro _ _ _ ⟨v3, rfl, hv3, rfl, rfl⟩
  refine r_zret m_92 rfl f_92_6 (by omega) ?_
  exact ⟨_, rfl, by omega, rfl, rfl⟩
theorem c_isSheet {S : XS} {M N : YM} {x : Int} (hx : -2147483648 ≤ x ∧ x < 2147483648) : rm S 1 93 [yi x] M N (fun r M' N' => ∃ v : Int, some (yi v) = r ∧ ((v = 1 ∧ 0 ≤ x ∧ x ≤ 3) ∨ (v = 0 ∧ (x < 0 ∨ 3 < x))) ∧ M = M' ∧ N = N') := by
  refine ⟨xe_93, m_93, Nat.le_of_ble_eq_true rfl, ?_⟩
  refine r_run 3 (pc' := 3) (ls' := [some (yi x)]) (st' := [yi 3, yi 0, yi x]) (M' := M) (N' := N) rfl ?_
  refine r_static (mj := 90) (as := [yi x, yi 0, yi 3]) (rest := []) f_93_3 (by decide) rfl m_90 rfl rfl rfl (Nat.le_of_ble_eq_true rfl) (by omega) (c_within (by omega) (by omega) (by omega)) ?_
  rintro _ _ _ ⟨v3, rfl, hv3, rfl, rfl⟩
  refine r_zret m_93 rfl f_93_6 (by omega) ?_
  exact ⟨_, rfl, by omega, rfl, rfl⟩
theorem m_isOne {S : XS} {M N : YM} {x : Int} (hx : -2147483648 ≤ x ∧ x < 2147483648) : rm S 1 115 [yi x] M N (fun r M' N' => ∃ v : Int, some (yi v) = r ∧ ((v = 1 ∧ 0 ≤ x ∧ x ≤ 5) ∨ (v = 0 ∧ (x < 0 ∨ 5 < x))) ∧ M = M' ∧ N = N') := by
  refine ⟨xe_115, m_115, Nat.le_of_ble_eq_true rfl, ?_⟩
  refine r_run 3 (pc' := 3) (ls' := [some (yi x)]) (st' := [yi 5, yi 0, yi x]) (M' := M) (N' := N) rfl ?_
  refine r_static (mj := 112) (as := [yi x, yi 0, yi 5]) (rest := []) f_115_3 (by decide) rfl m_112 rfl rfl rfl (Nat.le_of_ble_eq_true rfl) (by omega) (m_in (by omega) (by omega) (by omega)) ?_
  rintro _ _ _ ⟨v3, rfl, hv3, rfl, rfl⟩
  refine r_zret m_115 rfl f_115_6 (by omega) ?_
  exact ⟨_, rfl, by omega, rfl, rfl⟩
theorem m_isByte {S : XS} {M N : YM} {x : Int} (hx : -2147483648 ≤ x ∧ x < 2147483648) : rm S 1 120 [yi x] M N (fun r M' N' => ∃ v : Int, some (yi v) = r ∧ ((v = 1 ∧ 0 ≤ x ∧ x ≤ 255) ∨ (v = 0 ∧ (x < 0 ∨ 255 < x))) ∧ M = M' ∧ N = N') := by
  refine ⟨xe_120, m_120, Nat.le_of_ble_eq_true rfl, ?_⟩
  refine r_run 3 (pc' := 5) (ls' := [some (yi x)]) (st' := [yi 255, yi 0, yi x]) (M' := M) (N' := N) rfl ?_
  refine r_static (mj := 112) (as := [yi x, yi 0, yi 255]) (rest := []) f_120_5 (by decide) rfl m_112 rfl rfl rfl (Nat.le_of_ble_eq_true rfl) (by omega) (m_in (by omega) (by omega) (by omega)) ?_
  rintro _ _ _ ⟨v5, rfl, hv5, rfl, rfl⟩
  refine r_zret m_120 rfl f_120_8 (by omega) ?_
  exact ⟨_, rfl, by omega, rfl, rfl⟩
theorem c_isText {S : XS} {M N : YM} {x : Int} (hx : -2147483648 ≤ x ∧ x < 2147483648) (hc : 0 ≤ M 0 5 ∧ M 0 5 ≤ 10) : rm S 1 94 [yr 0, yi x] M N (fun r M' N' => ∃ v : Int, some (yi v) = r ∧ ((v = 1 ∧ 0 ≤ x ∧ x ≤ M 0 5 - 1) ∨ (v = 0 ∧ (x < 0 ∨ M 0 5 - 1 < x))) ∧ M = M' ∧ N = N') := by
  refine ⟨xe_94, m_94, Nat.le_of_ble_eq_true rfl, ?_⟩
  refine r_run 6 (pc' := 8) (ls' := [some (yr 0), some (yi x)]) (st' := [yi ((M 0 5) - 1), yi 0, yi x]) (M' := M) (N' := N) rfl ?_
  refine r_static (mj := 90) (as := [yi x, yi 0, yi ((M 0 5) - 1)]) (rest := []) f_94_8 (by decide) rfl m_90 rfl rfl rfl (Nat.le_of_ble_eq_true rfl) (by omega) (c_within (by omega) (by omega) (by omega)) ?_
  rintro _ _ _ ⟨v8, rfl, hv8, rfl, rfl⟩
  refine r_zret m_94 rfl f_94_11 (by omega) ?_
  exact ⟨_, rfl, by omega, rfl, rfl⟩
theorem c_isSaying {S : XS} {M N : YM} {x : Int} (hx : -2147483648 ≤ x ∧ x < 2147483648) (hc : 0 ≤ M 1 1 ∧ M 1 1 ≤ 10) : rm S 1 95 [yr 0, yi x] M N (fun r M' N' => ∃ v : Int, some (yi v) = r ∧ ((v = 1 ∧ 0 ≤ x ∧ x ≤ M 1 1 - 1) ∨ (v = 0 ∧ (x < 0 ∨ M 1 1 - 1 < x))) ∧ M = M' ∧ N = N') := by
  refine ⟨xe_95, m_95, Nat.le_of_ble_eq_true rfl, ?_⟩
  refine r_run 7 (pc' := 11) (ls' := [some (yr 0), some (yi x)]) (st' := [yi ((M 1 1) - 1), yi 0, yi x]) (M' := M) (N' := N) rfl ?_
  refine r_static (mj := 90) (as := [yi x, yi 0, yi ((M 1 1) - 1)]) (rest := []) f_95_11 (by decide) rfl m_90 rfl rfl rfl (Nat.le_of_ble_eq_true rfl) (by omega) (c_within (by omega) (by omega) (by omega)) ?_
  rintro _ _ _ ⟨v11, rfl, hv11, rfl, rfl⟩
  refine r_zret m_95 rfl f_95_14 (by omega) ?_
  exact ⟨_, rfl, by omega, rfl, rfl⟩
theorem m_isOfTexts {S : XS} {M N : YM} {x : Int} (hx : -2147483648 ≤ x ∧ x < 2147483648) (hc : 0 ≤ M 75 9 ∧ M 75 9 ≤ 10) : rm S 1 116 [yr 75, yi x] M N (fun r M' N' => ∃ v : Int, some (yi v) = r ∧ ((v = 1 ∧ 0 ≤ x ∧ x ≤ M 75 9 - 1) ∨ (v = 0 ∧ (x < 0 ∨ M 75 9 - 1 < x))) ∧ M = M' ∧ N = N') := by
  refine ⟨xe_116, m_116, Nat.le_of_ble_eq_true rfl, ?_⟩
  refine r_run 6 (pc' := 8) (ls' := [some (yr 75), some (yi x)]) (st' := [yi ((M 75 9) - 1), yi 0, yi x]) (M' := M) (N' := N) rfl ?_
  refine r_static (mj := 112) (as := [yi x, yi 0, yi ((M 75 9) - 1)]) (rest := []) f_116_8 (by decide) rfl m_112 rfl rfl rfl (Nat.le_of_ble_eq_true rfl) (by omega) (m_in (by omega) (by omega) (by omega)) ?_
  rintro _ _ _ ⟨v8, rfl, hv8, rfl, rfl⟩
  refine r_zret m_116 rfl f_116_11 (by omega) ?_
  exact ⟨_, rfl, by omega, rfl, rfl⟩
theorem m_isSaying {S : XS} {M N : YM} {x : Int} (hx : -2147483648 ≤ x ∧ x < 2147483648) (hc : 0 ≤ M 75 0 ∧ M 75 0 ≤ 10) : rm S 1 114 [yr 75, yi x] M N (fun r M' N' => ∃ v : Int, some (yi v) = r ∧ ((v = 1 ∧ 0 ≤ x ∧ x ≤ M 75 0 - 1) ∨ (v = 0 ∧ (x < 0 ∨ M 75 0 - 1 < x))) ∧ M = M' ∧ N = N') := by
  refine ⟨xe_114, m_114, Nat.le_of_ble_eq_true rfl, ?_⟩
  refine r_run 6 (pc' := 8) (ls' := [some (yr 75), some (yi x)]) (st' := [yi ((M 75 0) - 1), yi 0, yi x]) (M' := M) (N' := N) rfl ?_
  refine r_static (mj := 112) (as := [yi x, yi 0, yi ((M 75 0) - 1)]) (rest := []) f_114_8 (by decide) rfl m_112 rfl rfl rfl (Nat.le_of_ble_eq_true rfl) (by omega) (m_in (by omega) (by omega) (by omega)) ?_
  rintro _ _ _ ⟨v8, rfl, hv8, rfl, rfl⟩
  refine r_zret m_114 rfl f_114_11 (by omega) ?_
  exact ⟨_, rfl, by omega, rfl, rfl⟩
theorem c_count {S : XS} {M N : YM} {x : Int} (hx : -2147483648 ≤ x ∧ x < 2147483648) : rm S 0 52 [yr 0, yi x] M N (fun r M' N' => ∃ v : Int, some (yi v) = r ∧ ((x = 0 ∧ v = M 1 1) ∨ (x = 1 ∧ v = M 1 2) ∨ (x = 2 ∧ v = M 1 3) ∨ (x = 3 ∧ v = M 0 5) ∨ (x = 4 ∧ v = M 1 4) ∨ (x = 5 ∧ v = M 27 1) ∨ ((x < 0 ∨ 5 < x) ∧ v = -2)) ∧ M = M' ∧ N = N') := by
  refine ⟨xe_52, m_52, Nat.le_of_ble_eq_true rfl, ?_⟩
  refine r_run 1 (pc' := 1) (ls' := [some (yr 0), some (yi x)]) (st' := [yi x]) (M' := M) (N' := N) rfl ?_
  rcases (show (x < 0 ∨ 5 < x) ∨ x = 0 ∨ x = 1 ∨ x = 2 ∨ x = 3 ∨ x = 4 ∨ x = 5 by omega) with h1 | h1 | h1 | h1 | h1 | h1 | h1
  · refine r_sw_out (pc := 1) f_52_1 (by omega) h1 ?_
    refine r_run 1 (pc' := 87) (ls' := [some (yr 0), some (yi x)]) (st' := [yi (-2)]) (M' := M) (N' := N) rfl ?_
    refine r_iret m_52 rfl f_52_87 ?_
    exact ⟨_, rfl, by omega, rfl, rfl⟩
  · refine r_sw_in (pc := 1) 0 f_52_1 (by omega) (by omega) (by omega) rfl ?_
    refine r_run 3 (pc' := 47) (ls' := [some (yr 0), some (yi x)]) (st' := [yi (M 1 1)]) (M' := M) (N' := N) rfl ?_
    refine r_iret m_52 rfl f_52_47 ?_
    exact ⟨_, rfl, by omega, rfl, rfl⟩
  · refine r_sw_in (pc := 1) 1 f_52_1 (by omega) (by omega) (by omega) rfl ?_
    refine r_run 3 (pc' := 55) (ls' := [some (yr 0), some (yi x)]) (st' := [yi (M 1 2)]) (M' := M) (N' := N) rfl ?_
    refine r_iret m_52 rfl f_52_55 ?_
    exact ⟨_, rfl, by omega, rfl, rfl⟩
  · refine r_sw_in (pc := 1) 2 f_52_1 (by omega) (by omega) (by omega) rfl ?_
    refine r_run 3 (pc' := 63) (ls' := [some (yr 0), some (yi x)]) (st' := [yi (M 1 3)]) (M' := M) (N' := N) rfl ?_
    refine r_iret m_52 rfl f_52_63 ?_
    exact ⟨_, rfl, by omega, rfl, rfl⟩
  · refine r_sw_in (pc := 1) 3 f_52_1 (by omega) (by omega) (by omega) rfl ?_
    refine r_run 2 (pc' := 68) (ls' := [some (yr 0), some (yi x)]) (st' := [yi (M 0 5)]) (M' := M) (N' := N) rfl ?_
    refine r_iret m_52 rfl f_52_68 ?_
    exact ⟨_, rfl, by omega, rfl, rfl⟩
  · refine r_sw_in (pc := 1) 4 f_52_1 (by omega) (by omega) (by omega) rfl ?_
    refine r_run 3 (pc' := 76) (ls' := [some (yr 0), some (yi x)]) (st' := [yi (M 1 4)]) (M' := M) (N' := N) rfl ?_
    refine r_iret m_52 rfl f_52_76 ?_
    exact ⟨_, rfl, by omega, rfl, rfl⟩
  · refine r_sw_in (pc := 1) 5 f_52_1 (by omega) (by omega) (by omega) rfl ?_
    refine r_run 3 (pc' := 84) (ls' := [some (yr 0), some (yi x)]) (st' := [yi (M 27 1)]) (M' := M) (N' := N) rfl ?_
    refine r_iret m_52 rfl f_52_84 ?_
    exact ⟨_, rfl, by omega, rfl, rfl⟩
theorem m_count {S : XS} {M N : YM} {x : Int} (hx : -2147483648 ≤ x ∧ x < 2147483648) : rm S 0 118 [yr 75, yi x] M N (fun r M' N' => ∃ v : Int, some (yi v) = r ∧ ((x = 0 ∧ v = M 75 0) ∨ (x = 1 ∧ v = M 75 2) ∨ (x = 2 ∧ v = M 75 4) ∨ (x = 3 ∧ v = M 75 9) ∨ (x = 4 ∧ v = M 75 10) ∨ (x = 5 ∧ v = M 75 6) ∨ ((x < 0 ∨ 5 < x) ∧ v = -2)) ∧ M = M' ∧ N = N') := by
  refine ⟨xe_118, m_118, Nat.le_of_ble_eq_true rfl, ?_⟩
  refine r_run 1 (pc' := 1) (ls' := [some (yr 75), some (yi x)]) (st' := [yi x]) (M' := M) (N' := N) rfl ?_
  rcases (show (x < 0 ∨ 5 < x) ∨ x = 0 ∨ x = 1 ∨ x = 2 ∨ x = 3 ∨ x = 4 ∨ x = 5 by omega) with h1 | h1 | h1 | h1 | h1 | h1 | h1
  · refine r_sw_out (pc := 1) f_118_1 (by omega) h1 ?_
    refine r_run 1 (pc' := 72) (ls' := [some (yr 75), some (yi x)]) (st' := [yi (-2)]) (M' := M) (N' := N) rfl ?_
    refine r_iret m_118 rfl f_118_72 ?_
    exact ⟨_, rfl, by omega, rfl, rfl⟩
  · refine r_sw_in (pc := 1) 0 f_118_1 (by omega) (by omega) (by omega) rfl ?_
    refine r_run 2 (pc' := 44) (ls' := [some (yr 75), some (yi x)]) (st' := [yi (M 75 0)]) (M' := M) (N' := N) rfl ?_
    refine r_iret m_118 rfl f_118_44 ?_
    exact ⟨_, rfl, by omega, rfl, rfl⟩
  · refine r_sw_in (pc := 1) 1 f_118_1 (by omega) (by omega) (by omega) rfl ?_
    refine r_run 2 (pc' := 49) (ls' := [some (yr 75), some (yi x)]) (st' := [yi (M 75 2)]) (M' := M) (N' := N) rfl ?_
    refine r_iret m_118 rfl f_118_49 ?_
    exact ⟨_, rfl, by omega, rfl, rfl⟩
  · refine r_sw_in (pc := 1) 2 f_118_1 (by omega) (by omega) (by omega) rfl ?_
    refine r_run 2 (pc' := 54) (ls' := [some (yr 75), some (yi x)]) (st' := [yi (M 75 4)]) (M' := M) (N' := N) rfl ?_
    refine r_iret m_118 rfl f_118_54 ?_
    exact ⟨_, rfl, by omega, rfl, rfl⟩
  · refine r_sw_in (pc := 1) 3 f_118_1 (by omega) (by omega) (by omega) rfl ?_
    refine r_run 2 (pc' := 59) (ls' := [some (yr 75), some (yi x)]) (st' := [yi (M 75 9)]) (M' := M) (N' := N) rfl ?_
    refine r_iret m_118 rfl f_118_59 ?_
    exact ⟨_, rfl, by omega, rfl, rfl⟩
  · refine r_sw_in (pc := 1) 4 f_118_1 (by omega) (by omega) (by omega) rfl ?_
    refine r_run 2 (pc' := 64) (ls' := [some (yr 75), some (yi x)]) (st' := [yi (M 75 10)]) (M' := M) (N' := N) rfl ?_
    refine r_iret m_118 rfl f_118_64 ?_
    exact ⟨_, rfl, by omega, rfl, rfl⟩
  · refine r_sw_in (pc := 1) 5 f_118_1 (by omega) (by omega) (by omega) rfl ?_
    refine r_run 2 (pc' := 69) (ls' := [some (yr 75), some (yi x)]) (st' := [yi (M 75 6)]) (M' := M) (N' := N) rfl ?_
    refine r_iret m_118 rfl f_118_69 ?_
    exact ⟨_, rfl, by omega, rfl, rfl⟩
theorem c_set {S : XS} {M N : YM} {x : Int} (hx : -2147483648 ≤ x ∧ x < 2147483648) : rm S 2 53 [yr 0, yi x] M N (fun r M' N' => ∃ v : Int, some (yi v) = r ∧ ((0 ≤ x ∧ x ≤ 99 ∧ v = M 1 3 ∧ yu M 1 3 x = M') ∨ ((x < 0 ∨ 99 < x) ∧ v = -2 ∧ M = M')) ∧ N = N') := by
  refine ⟨xe_53, m_53, Nat.le_of_ble_eq_true rfl, ?_⟩
  refine r_run 3 (pc' := 4) (ls' := [some (yr 0), some (yi x), none]) (st' := [yi 99, yi 0, yi x]) (M' := M) (N' := N) rfl ?_
  refine r_static (mj := 90) (as := [yi x, yi 0, yi 99]) (rest := []) f_53_4 (by decide) rfl m_90 rfl rfl rfl (Nat.le_of_ble_eq_true rfl) (by omega) (c_within (by omega) (by omega) (by omega)) ?_
  rintro _ _ _ ⟨v4, rfl, hv4, rfl, rfl⟩
  refine r_if_ne (pc := 7) f_53_7 (by omega) (fun h7 => ?_) (fun h7 => ?_)
  · refine r_run 9 (pc' := 30) (ls' := [some (yr 0), some (yi x), some (yi (M 1 3))]) (st' := [yi (M 1 3)]) (M' := (yu M 1 3 x)) (N' := N) rfl ?_
    refine r_iret m_53 rfl f_53_30 ?_
    exact ⟨_, rfl, Or.inl ⟨by omega, by omega, rfl, rfl⟩, rfl⟩
  · refine r_run 1 (pc' := 12) (ls' := [some (yr 0), some (yi x), none]) (st' := [yi (-2)]) (M' := M) (N' := N) rfl ?_
    refine r_iret m_53 rfl f_53_12 ?_
    exact ⟨_, rfl, Or.inr ⟨by omega, rfl, rfl⟩, rfl⟩
theorem m_set {S : XS} {M N : YM} {x : Int} (hx : -2147483648 ≤ x ∧ x < 2147483648) : rm S 2 119 [yr 75, yi x] M N (fun r M' N' => ∃ v : Int, some (yi v) = r ∧ ((0 ≤ x ∧ x ≤ 99 ∧ v = M 75 4 ∧ yu M 75 4 x = M') ∨ ((x < 0 ∨ 99 < x) ∧ v = -2 ∧ M = M')) ∧ N = N') := by
  refine ⟨xe_119, m_119, Nat.le_of_ble_eq_true rfl, ?_⟩
  refine r_run 3 (pc' := 4) (ls' := [some (yr 75), some (yi x), none]) (st' := [yi 99, yi 0, yi x]) (M' := M) (N' := N) rfl ?_
  refine r_static (mj := 112) (as := [yi x, yi 0, yi 99]) (rest := []) f_119_4 (by decide) rfl m_112 rfl rfl rfl (Nat.le_of_ble_eq_true rfl) (by omega) (m_in (by omega) (by omega) (by omega)) ?_
  rintro _ _ _ ⟨v4, rfl, hv4, rfl, rfl⟩
  refine r_if_ne (pc := 7) f_119_7 (by omega) (fun h7 => ?_) (fun h7 => ?_)
  · refine r_run 7 (pc' := 24) (ls' := [some (yr 75), some (yi x), some (yi (M 75 4))]) (st' := [yi (M 75 4)]) (M' := (yu M 75 4 x)) (N' := N) rfl ?_
    refine r_iret m_119 rfl f_119_24 ?_
    exact ⟨_, rfl, Or.inl ⟨by omega, by omega, rfl, rfl⟩, rfl⟩
  · refine r_run 1 (pc' := 12) (ls' := [some (yr 75), some (yi x), none]) (st' := [yi (-2)]) (M' := M) (N' := N) rfl ?_
    refine r_iret m_119 rfl f_119_12 ?_
    exact ⟨_, rfl, Or.inr ⟨by omega, rfl, rfl⟩, rfl⟩
theorem c_force {S : XS} {M N : YM} {x : Int} (hx : -2147483648 ≤ x ∧ x < 2147483648) (hc : 0 ≤ M 0 5 ∧ M 0 5 ≤ 10) : rm S 2 56 [yr 0, yi x] M N (fun r M' N' => ∃ v : Int, some (yi v) = r ∧ ((0 ≤ x ∧ x < M 0 5 ∧ v = M 1 4 ∧ yu M 1 4 x = M') ∨ ((x < 0 ∨ M 0 5 ≤ x) ∧ v = -2 ∧ M = M')) ∧ N = N') := by
  refine ⟨xe_56, m_56, Nat.le_of_ble_eq_true rfl, ?_⟩
  refine r_run 2 (pc' := 2) (ls' := [some (yr 0), some (yi x), none]) (st' := [yi x, yr 0]) (M' := M) (N' := N) rfl ?_
  refine r_virtual (mj := 94) (b := 0) (as := [yi x]) (rest := []) f_56_2 (by decide) rfl m_94 (by decide) (by decide) (by decide) rfl rfl (Nat.le_of_ble_eq_true rfl) (by omega) (c_isText (by omega) (by omega)) ?_
  rintro _ _ _ ⟨v2, rfl, hv2, rfl, rfl⟩
  refine r_if_ne (pc := 5) f_56_5 (by omega) (fun h5 => ?_) (fun h5 => ?_)
  · refine r_run 9 (pc' := 28) (ls' := [some (yr 0), some (yi x), some (yi (M 1 4))]) (st' := [yi (M 1 4)]) (M' := (yu M 1 4 x)) (N' := N) rfl ?_
    refine r_iret m_56 rfl f_56_28 ?_
    exact ⟨_, rfl, Or.inl ⟨by omega, by omega, rfl, rfl⟩, rfl⟩
  · refine r_run 1 (pc' := 10) (ls' := [some (yr 0), some (yi x), none]) (st' := [yi (-2)]) (M' := M) (N' := N) rfl ?_
    refine r_iret m_56 rfl f_56_10 ?_
    exact ⟨_, rfl, Or.inr ⟨by omega, rfl, rfl⟩, rfl⟩
theorem m_force {S : XS} {M N : YM} {x : Int} (hx : -2147483648 ≤ x ∧ x < 2147483648) (hc : 0 ≤ M 75 9 ∧ M 75 9 ≤ 10) : rm S 2 135 [yr 75, yi x] M N (fun r M' N' => ∃ v : Int, some (yi v) = r ∧ ((0 ≤ x ∧ x < M 75 9 ∧ v = M 75 10 ∧ yu M 75 10 x = M') ∨ ((x < 0 ∨ M 75 9 ≤ x) ∧ v = -2 ∧ M = M')) ∧ N = N') := by
  refine ⟨xe_135, m_135, Nat.le_of_ble_eq_true rfl, ?_⟩
  refine r_run 6 (pc' := 8) (ls' := [some (yr 75), some (yi x), none]) (st' := [yi ((M 75 9) - 1), yi 0, yi x]) (M' := M) (N' := N) rfl ?_
  refine r_static (mj := 112) (as := [yi x, yi 0, yi ((M 75 9) - 1)]) (rest := []) f_135_8 (by decide) rfl m_112 rfl rfl rfl (Nat.le_of_ble_eq_true rfl) (by omega) (m_in (by omega) (by omega) (by omega)) ?_
  rintro _ _ _ ⟨v8, rfl, hv8, rfl, rfl⟩
  refine r_if_ne (pc := 11) f_135_11 (by omega) (fun h11 => ?_) (fun h11 => ?_)
  · refine r_run 7 (pc' := 28) (ls' := [some (yr 75), some (yi x), some (yi (M 75 10))]) (st' := [yi (M 75 10)]) (M' := (yu M 75 10 x)) (N' := N) rfl ?_
    refine r_iret m_135 rfl f_135_28 ?_
    exact ⟨_, rfl, Or.inl ⟨by omega, by omega, rfl, rfl⟩, rfl⟩
  · refine r_run 1 (pc' := 16) (ls' := [some (yr 75), some (yi x), none]) (st' := [yi (-2)]) (M' := M) (N' := N) rfl ?_
    refine r_iret m_135 rfl f_135_16 ?_
    exact ⟨_, rfl, Or.inr ⟨by omega, rfl, rfl⟩, rfl⟩
theorem c_unsay {S : XS} {M N : YM} (hc : 0 ≤ M 1 1 ∧ M 1 1 ≤ 10) : rm S 0 58 [yr 0] M N (fun r M' N' => ∃ v : Int, some (yi v) = r ∧ ((0 < M 1 1 ∧ v = M 1 1 - 1 ∧ yu M 1 1 (M 1 1 - 1) = M') ∨ (M 1 1 = 0 ∧ v = -3 ∧ M = M')) ∧ N = N') := by
  refine ⟨xe_58, m_58, Nat.le_of_ble_eq_true rfl, ?_⟩
  refine r_run 3 (pc' := 7) (ls' := [some (yr 0)]) (st' := [yi (M 1 1)]) (M' := M) (N' := N) rfl ?_
  refine r_if_ne (pc := 7) f_58_7 (by omega) (fun h7 => ?_) (fun h7 => ?_)
  · refine r_run 10 (pc' := 33) (ls' := [some (yr 0)]) (st' := [yi ((M 1 1) - 1)]) (M' := (yu M 1 1 ((M 1 1) - 1))) (N' := N) rfl ?_
    refine r_iret m_58 rfl f_58_33 ?_
    exact ⟨_, rfl, Or.inl ⟨by omega, rfl, rfl⟩, rfl⟩
  · refine r_run 1 (pc' := 12) (ls' := [some (yr 0)]) (st' := [yi (-3)]) (M' := M) (N' := N) rfl ?_
    refine r_iret m_58 rfl f_58_12 ?_
    exact ⟨_, rfl, Or.inr ⟨by omega, rfl, rfl⟩, rfl⟩
theorem m_unsay {S : XS} {M N : YM} (hc : 0 ≤ M 75 0 ∧ M 75 0 ≤ 10) : rm S 0 137 [yr 75] M N (fun r M' N' => ∃ v : Int, some (yi v) = r ∧ ((0 < M 75 0 ∧ v = M 75 0 - 1 ∧ yu M 75 0 (M 75 0 - 1) = M') ∨ (M 75 0 = 0 ∧ v = -3 ∧ M = M')) ∧ N = N') := by
  refine ⟨xe_137, m_137, Nat.le_of_ble_eq_true rfl, ?_⟩
  refine r_run 2 (pc' := 4) (ls' := [some (yr 75)]) (st' := [yi (M 75 0)]) (M' := M) (N' := N) rfl ?_
  refine r_if_ne (pc := 4) f_137_4 (by omega) (fun h4 => ?_) (fun h4 => ?_)
  · refine r_run 8 (pc' := 24) (ls' := [some (yr 75)]) (st' := [yi ((M 75 0) - 1)]) (M' := (yu M 75 0 ((M 75 0) - 1))) (N' := N) rfl ?_
    refine r_iret m_137 rfl f_137_24 ?_
    exact ⟨_, rfl, Or.inl ⟨by omega, rfl, rfl⟩, rfl⟩
  · refine r_run 1 (pc' := 9) (ls' := [some (yr 75)]) (st' := [yi (-3)]) (M' := M) (N' := N) rfl ?_
    refine r_iret m_137 rfl f_137_9 ?_
    exact ⟨_, rfl, Or.inr ⟨by omega, rfl, rfl⟩, rfl⟩
theorem c_sbecomes {S : XS} {M N : YM} {b : Int} (hb : 0 ≤ b ∧ b < 94) (hk : yk b = (202, 5)) {km o lo hi : Int} (hkm : 0 ≤ km ∧ km < 60) : rm S 0 22 [yr b, yi km, yi o, yi lo, yi hi] M N (fun r M' N' => none = r ∧ yu (yu (yu (yu (yu M b 0 (km / 10)) b 1 (km % 10)) b 2 o) b 3 lo) b 4 hi = M' ∧ N = N') := by
  refine ⟨xe_22, m_22, Nat.le_of_ble_eq_true rfl, ?_⟩
  refine r_run 3 (pc' := 4) (ls' := [some (yr b), some (yi km), some (yi o), some (yi lo), some (yi hi)]) (st' := [yi 10, yi km, yr b]) (M' := M) (N' := N) rfl ?_
  refine r_idiv f_22_4 (by omega) (by omega) ?_
  refine r_putf (n := 5) 0 rfl f_22_5 (show xFT[12]? = some (2, 0) from rfl) (Or.inl (by decide)) hb hk ?_
  refine r_run 3 (pc' := 12) (ls' := [some (yr b), some (yi km), some (yi o), some (yi lo), some (yi hi)]) (st' := [yi 10, yi km, yr b]) (M' := (yu M b 0 (km / 10))) (N' := N) rfl ?_
  refine r_irem f_22_12 (by omega) (by omega) ?_
  refine r_putf (n := 5) 1 rfl f_22_13 (show xFT[13]? = some (2, 1) from rfl) (Or.inl (by decide)) hb hk ?_
  refine r_run 2 (pc' := 18) (ls' := [some (yr b), some (yi km), some (yi o), some (yi lo), some (yi hi)]) (st' := [yi o, yr b]) (M' := (yu (yu M b 0 (km / 10)) b 1 (km % 10))) (N' := N) rfl ?_
  refine r_putf (n := 5) 2 rfl f_22_18 (show xFT[14]? = some (2, 2) from rfl) (Or.inl (by decide)) hb hk ?_
  refine r_run 2 (pc' := 23) (ls' := [some (yr b), some (yi km), some (yi o), some (yi lo), some (yi hi)]) (st' := [yi lo, yr b]) (M' := (yu (yu (yu M b 0 (km / 10)) b 1 (km % 10)) b 2 o)) (N' := N) rfl ?_
  refine r_putf (n := 5) 3 rfl f_22_23 (show xFT[15]? = some (2, 3) from rfl) (Or.inl (by decide)) hb hk ?_
  refine r_run 2 (pc' := 29) (ls' := [some (yr b), some (yi km), some (yi o), some (yi lo), some (yi hi)]) (st' := [yi hi, yr b]) (M' := (yu (yu (yu (yu M b 0 (km / 10)) b 1 (km % 10)) b 2 o) b 3 lo)) (N' := N) rfl ?_
  refine r_putf (n := 5) 4 rfl f_22_29 (show xFT[16]? = some (2, 4) from rfl) (Or.inl (by decide)) hb hk ?_
  refine r_vret m_22 rfl f_22_32 ?_
  exact ⟨rfl, rfl, rfl⟩
theorem c_middle {S : XS} {M N : YM} {b : Int} (hb : 0 ≤ b ∧ b < 94) (hk : yk b = (202, 5)) (hl : 0 ≤ M b 3 ∧ M b 3 ≤ 999) (hh : 0 ≤ M b 4 ∧ M b 4 ≤ 999) : rm S 0 25 [yr b] M N (fun r M' N' => ∃ v : Int, some (yi v) = r ∧ (v = (M b 3 + M b 4) / 2) ∧ M = M' ∧ N = N') := by
  refine ⟨xe_25, m_25, Nat.le_of_ble_eq_true rfl, ?_⟩
  refine r_run 1 (pc' := 1) (ls' := [some (yr b)]) (st' := [yr b]) (M' := M) (N' := N) rfl ?_
  refine r_getf (n := 5) 3 rfl f_25_1 (by decide) (show xFT[15]? = some (2, 3) from rfl) (by decide) hb hk ?_
  refine r_run 1 (pc' := 5) (ls' := [some (yr b)]) (st' := [yr b, yi (M b 3)]) (M' := M) (N' := N) rfl ?_
  refine r_getf (n := 5) 4 rfl f_25_5 (by decide) (show xFT[16]? = some (2, 4) from rfl) (by decide) hb hk ?_
  refine r_run 2 (pc' := 10) (ls' := [some (yr b)]) (st' := [yi 2, yi ((M b 3) + (M b 4))]) (M' := M) (N' := N) rfl ?_
  refine r_idiv f_25_10 (by omega) (by omega) ?_
  refine r_iret m_25 rfl f_25_11 ?_
  exact ⟨_, rfl, by omega, rfl, rfl⟩
theorem c_lbecomes {S : XS} {M N : YM} {b : Int} (hb : 0 ≤ b ∧ b < 94) (hk : yk b = (200, 4)) {x y lo hi : Int} : rm S 0 2 [yr b, yi x, yi y, yi lo, yi hi] M N (fun r M' N' => none = r ∧ yu (yu (yu (yu M b 0 x) b 1 y) b 2 lo) b 3 hi = M' ∧ N = N') := by
  refine ⟨xe_2, m_2, Nat.le_of_ble_eq_true rfl, ?_⟩
  refine r_run 2 (pc' := 2) (ls' := [some (yr b), some (yi x), some (yi y), some (yi lo), some (yi hi)]) (st' := [yi x, yr b]) (M' := M) (N' := N) rfl ?_
  refine r_putf (n := 4) 0 rfl f_2_2 (show xFT[0]? = some (0, 0) from rfl) (Or.inl (by decide)) hb hk ?_
  refine r_run 2 (pc' := 7) (ls' := [some (yr b), some (yi x), some (yi y), some (yi lo), some (yi hi)]) (st' := [yi y, yr b]) (M' := (yu M b 0 x)) (N' := N) rfl ?_
  refine r_putf (n := 4) 1 rfl f_2_7 (show xFT[1]? = some (0, 1) from rfl) (Or.inl (by decide)) hb hk ?_
  refine r_run 2 (pc' := 12) (ls' := [some (yr b), some (yi x), some (yi y), some (yi lo), some (yi hi)]) (st' := [yi lo, yr b]) (M' := (yu (yu M b 0 x) b 1 y)) (N' := N) rfl ?_
  refine r_putf (n := 4) 2 rfl f_2_12 (show xFT[2]? = some (0, 2) from rfl) (Or.inl (by decide)) hb hk ?_
  refine r_run 2 (pc' := 18) (ls' := [some (yr b), some (yi x), some (yi y), some (yi lo), some (yi hi)]) (st' := [yi hi, yr b]) (M' := (yu (yu (yu M b 0 x) b 1 y) b 2 lo)) (N' := N) rfl ?_
  refine r_putf (n := 4) 3 rfl f_2_18 (show xFT[3]? = some (0, 3) from rfl) (Or.inl (by decide)) hb hk ?_
  refine r_vret m_2 rfl f_2_21 ?_
  exact ⟨rfl, rfl, rfl⟩
