theorem c_within {S : XS} {M N : YM} {v lo hi : Int} (hv : -2147483648 ≤ v ∧ v < 2147483648) (hlo : -2147483648 ≤ lo ∧ lo < 2147483648) (hhi : -2147483648 ≤ hi ∧ hi < 2147483648) : rm S 1 90 [yi v, yi lo, yi hi] M N (fun r M' N' => r = some (yi (if lo ≤ v ∧ v ≤ hi then 1 else 0)) ∧ M' = M ∧ N' = N) := by
  refine ⟨xe_90, m_90, Nat.le_of_ble_eq_true rfl, ?_⟩
  refine r_run 2 (pc' := 2) (ls' := [some (yi v), some (yi lo), some (yi hi)]) (st' := [yi v, yi lo]) (M' := M) (N' := N) rfl ?_
  refine r_icmp_gt (pc := 2) f_90_2 (by omega) (by omega) (fun h2 => ?_) (fun h2 => ?_)
  · refine r_run 1 (pc' := 15) (ls' := [some (yi v), some (yi lo), some (yi hi)]) (st' := [yi 0]) (M' := M) (N' := N) rfl ?_
    refine r_zret m_90 rfl f_90_15 (by decide) ?_
    exact ⟨by rw [if_neg (by omega)], rfl, rfl⟩
  · refine r_run 2 (pc' := 7) (ls' := [some (yi v), some (yi lo), some (yi hi)]) (st' := [yi hi, yi v]) (M' := M) (N' := N) rfl ?_
    refine r_icmp_gt (pc := 7) f_90_7 (by omega) (by omega) (fun h7 => ?_) (fun h7 => ?_)
    · refine r_run 1 (pc' := 15) (ls' := [some (yi v), some (yi lo), some (yi hi)]) (st' := [yi 0]) (M' := M) (N' := N) rfl ?_
      refine r_zret m_90 rfl f_90_15 (by decide) ?_
      exact ⟨by rw [if_neg (by omega)], rfl, rfl⟩
    · refine r_run 2 (pc' := 15) (ls' := [some (yi v), some (yi lo), some (yi hi)]) (st' := [yi 1]) (M' := M) (N' := N) rfl ?_
      refine r_zret m_90 rfl f_90_15 (by decide) ?_
      exact ⟨by rw [if_pos (by omega)], rfl, rfl⟩
theorem c_count {S : XS} {M N : YM} {v : Int} (hv : -2147483648 ≤ v ∧ v < 2147483648) : rm S 1 52 [yr 0, yi v] M N (fun r M' N' => r = some (yi (if v = 0 then M 1 1 else if v = 1 then M 1 2 else if v = 2 then M 1 3 else if v = 3 then M 0 5 else if v = 4 then M 1 4 else if v = 5 then M 27 1 else -2)) ∧ M' = M ∧ N' = N) := by
  refine ⟨xe_52, m_52, Nat.le_of_ble_eq_true rfl, ?_⟩
  refine r_run 1 (pc' := 1) (ls' := [some (yr 0), some (yi v)]) (st' := [yi v]) (M' := M) (N' := N) rfl ?_
  rcases (show (v < 0 ∨ 5 < v) ∨ v = 0 ∨ v = 1 ∨ v = 2 ∨ v = 3 ∨ v = 4 ∨ v = 5 by omega) with h1 | h1 | h1 | h1 | h1 | h1 | h1
  · refine r_sw_out (pc := 1) f_52_1 (by omega) h1 ?_
    refine r_run 1 (pc' := 87) (ls' := [some (yr 0), some (yi v)]) (st' := [yi (-2)]) (M' := M) (N' := N) rfl ?_
    refine r_iret m_52 rfl f_52_87 ?_
    exact ⟨by simp; omega, rfl, rfl⟩
  · refine r_sw_in (pc := 1) 0 f_52_1 (by omega) (by omega) (by omega) rfl ?_
    refine r_run 3 (pc' := 47) (ls' := [some (yr 0), some (yi v)]) (st' := [yi (M 1 1)]) (M' := M) (N' := N) rfl ?_
    refine r_iret m_52 rfl f_52_47 ?_
    exact ⟨by simp [h1], rfl, rfl⟩
  · refine r_sw_in (pc := 1) 1 f_52_1 (by omega) (by omega) (by omega) rfl ?_
    refine r_run 3 (pc' := 55) (ls' := [some (yr 0), some (yi v)]) (st' := [yi (M 1 2)]) (M' := M) (N' := N) rfl ?_
    refine r_iret m_52 rfl f_52_55 ?_
    exact ⟨by simp [h1], rfl, rfl⟩
  · refine r_sw_in (pc := 1) 2 f_52_1 (by omega) (by omega) (by omega) rfl ?_
    refine r_run 3 (pc' := 63) (ls' := [some (yr 0), some (yi v)]) (st' := [yi (M 1 3)]) (M' := M) (N' := N) rfl ?_
    refine r_iret m_52 rfl f_52_63 ?_
    exact ⟨by simp [h1], rfl, rfl⟩
  · refine r_sw_in (pc := 1) 3 f_52_1 (by omega) (by omega) (by omega) rfl ?_
    refine r_run 2 (pc' := 68) (ls' := [some (yr 0), some (yi v)]) (st' := [yi (M 0 5)]) (M' := M) (N' := N) rfl ?_
    refine r_iret m_52 rfl f_52_68 ?_
    exact ⟨by simp [h1], rfl, rfl⟩
  · refine r_sw_in (pc := 1) 4 f_52_1 (by omega) (by omega) (by omega) rfl ?_
    refine r_run 3 (pc' := 76) (ls' := [some (yr 0), some (yi v)]) (st' := [yi (M 1 4)]) (M' := M) (N' := N) rfl ?_
    refine r_iret m_52 rfl f_52_76 ?_
    exact ⟨by simp [h1], rfl, rfl⟩
  · refine r_sw_in (pc := 1) 5 f_52_1 (by omega) (by omega) (by omega) rfl ?_
    refine r_run 3 (pc' := 84) (ls' := [some (yr 0), some (yi v)]) (st' := [yi (M 27 1)]) (M' := M) (N' := N) rfl ?_
    refine r_iret m_52 rfl f_52_84 ?_
    exact ⟨by simp [h1], rfl, rfl⟩
