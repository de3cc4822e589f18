/-- FROM how much on, UP TO how much a saying of a kind tells -/
def sFrom (k m lo hi y : Int) : Int := if k = 1 then (if lo - m < 0 then 0 else lo - m) else if k = 2 then (if (lo + hi) / 2 < lo + m then (lo + hi) / 2 else lo + m) else if k = 3 then (if lo - m - y < 0 then 0 else lo - m - y) else if k = 4 then (if m ≤ y then (lo + hi) / 2 else if (lo + hi) / 2 < lo + m then (lo + hi) / 2 else lo + m) else lo
def sUpTo (k m lo hi y : Int) : Int := if k = 1 then (if 999 < hi + m then 999 else hi + m) else if k = 2 then (if hi - m < (lo + hi) / 2 then (lo + hi) / 2 else hi - m) else if k = 3 then (if 999 < hi + m + y then 999 else hi + m + y) else if k = 4 then (if m ≤ y then (lo + hi) / 2 else if hi - m < (lo + hi) / 2 then (lo + hi) / 2 else hi - m) else if k = 5 then 999 else hi
/-- a saying's numbers are as told -/
abbrev sOk (k m lo hi : Int) : Prop := (0 ≤ k ∧ k ≤ 5) ∧ (0 ≤ m ∧ m ≤ 9) ∧ 0 ≤ lo ∧ lo ≤ hi ∧ hi ≤ 999
theorem sFrom_in {k m lo hi y : Int} (h : sOk k m lo hi) (hy : 0 ≤ y ∧ y ≤ 99) : 0 ≤ sFrom k m lo hi y ∧ sFrom k m lo hi y ≤ 999 := by
  unfold sFrom
  (repeat' split) <;> omega
theorem sUpTo_in {k m lo hi y : Int} (h : sOk k m lo hi) (hy : 0 ≤ y ∧ y ≤ 99) : 0 ≤ sUpTo k m lo hi y ∧ sUpTo k m lo hi y ≤ 999 := by
  unfold sUpTo
  (repeat' split) <;> omega
theorem c_from {S : XS} {M N : YM} {b : Int} (hb : 0 ≤ b ∧ b < 94) (hk : yk b = (202, 5)) (hs : sOk (M b 0) (M b 1) (M b 3) (M b 4)) {y : Int} (hy : 0 ≤ y ∧ y ≤ 99) : rm S 1 23 [yr b, yi y] M N (fun r M' N' => ∃ v : Int, some (yi v) = r ∧ (v = sFrom (M b 0) (M b 1) (M b 3) (M b 4) y) ∧ M = M' ∧ N = N') := by
  refine ⟨xe_23, m_23, Nat.le_of_ble_eq_true rfl, ?_⟩
  refine r_run 1 (pc' := 1) (ls' := [some (yr b), some (yi y)]) (st' := [yr b]) (M' := M) (N' := N) rfl ?_
  refine r_getf (n := 5) 0 rfl f_23_1 (by decide) (show xFT[12]? = some (2, 0) from rfl) (by decide) hb hk ?_
  rcases (show (M b 0 < 1 ∨ 4 < M b 0) ∨ M b 0 = 1 ∨ M b 0 = 2 ∨ M b 0 = 3 ∨ M b 0 = 4 by omega) with h4 | h4 | h4 | h4 | h4
  · refine r_sw_out (pc := 4) f_23_4 (by omega) h4 ?_
    refine r_run 1 (pc' := 116) (ls' := [some (yr b), some (yi y)]) (st' := [yr b]) (M' := M) (N' := N) rfl ?_
    refine r_getf (n := 5) 3 rfl f_23_116 (by decide) (show xFT[15]? = some (2, 3) from rfl) (by decide) hb hk ?_
    refine r_iret m_23 rfl f_23_119 ?_
    exact ⟨_, rfl, by unfold sFrom; (repeat' split) <;> omega, rfl, rfl⟩
  · refine r_sw_in (pc := 4) 0 f_23_4 (by omega) (by omega) (by omega) rfl ?_
    refine r_run 2 (pc' := 38) (ls' := [some (yr b), some (yi y)]) (st' := [yr b, yi 0]) (M' := M) (N' := N) rfl ?_
    refine r_getf (n := 5) 3 rfl f_23_38 (by decide) (show xFT[15]? = some (2, 3) from rfl) (by decide) hb hk ?_
    refine r_run 1 (pc' := 42) (ls' := [some (yr b), some (yi y)]) (st' := [yr b, yi (M b 3), yi 0]) (M' := M) (N' := N) rfl ?_
    refine r_getf (n := 5) 1 rfl f_23_42 (by decide) (show xFT[13]? = some (2, 1) from rfl) (by decide) hb hk ?_
    refine r_run 1 (pc' := 46) (ls' := [some (yr b), some (yi y)]) (st' := [yi ((M b 3) - (M b 1)), yi 0]) (M' := M) (N' := N) rfl ?_
    refine r_max f_23_46 (by omega) (by omega) (Nat.le_of_ble_eq_true rfl) (by omega) (fun v46 hv46 => ?_)
    refine r_iret m_23 rfl f_23_49 ?_
    exact ⟨_, rfl, by unfold sFrom; (repeat' split) <;> omega, rfl, rfl⟩
  · refine r_sw_in (pc := 4) 1 f_23_4 (by omega) (by omega) (by omega) rfl ?_
    refine r_run 1 (pc' := 51) (ls' := [some (yr b), some (yi y)]) (st' := [yr b]) (M' := M) (N' := N) rfl ?_
    refine r_getf (n := 5) 3 rfl f_23_51 (by decide) (show xFT[15]? = some (2, 3) from rfl) (by decide) hb hk ?_
    refine r_run 1 (pc' := 55) (ls' := [some (yr b), some (yi y)]) (st' := [yr b, yi (M b 3)]) (M' := M) (N' := N) rfl ?_
    refine r_getf (n := 5) 1 rfl f_23_55 (by decide) (show xFT[13]? = some (2, 1) from rfl) (by decide) hb hk ?_
    refine r_run 2 (pc' := 60) (ls' := [some (yr b), some (yi y)]) (st' := [yr b, yi ((M b 3) + (M b 1))]) (M' := M) (N' := N) rfl ?_
    refine r_virtual (mj := 25) (b := b) (as := []) (rest := [yi ((M b 3) + (M b 1))]) f_23_60 (by decide) rfl m_25 (by decide) hb (by rw [hk]; rfl) rfl rfl (Nat.le_of_ble_eq_true rfl) (by omega) (c_middle hb hk (by omega) (by omega)) ?_
    rintro _ _ _ ⟨v60, rfl, hv60, rfl, rfl⟩
    refine r_min f_23_63 (by omega) (by omega) (Nat.le_of_ble_eq_true rfl) (by omega) (fun v63 hv63 => ?_)
    refine r_iret m_23 rfl f_23_66 ?_
    exact ⟨_, rfl, by unfold sFrom; (repeat' split) <;> omega, rfl, rfl⟩
  · refine r_sw_in (pc := 4) 2 f_23_4 (by omega) (by omega) (by omega) rfl ?_
    refine r_run 2 (pc' := 69) (ls' := [some (yr b), some (yi y)]) (st' := [yr b, yi 0]) (M' := M) (N' := N) rfl ?_
    refine r_getf (n := 5) 3 rfl f_23_69 (by decide) (show xFT[15]? = some (2, 3) from rfl) (by decide) hb hk ?_
    refine r_run 1 (pc' := 73) (ls' := [some (yr b), some (yi y)]) (st' := [yr b, yi (M b 3), yi 0]) (M' := M) (N' := N) rfl ?_
    refine r_getf (n := 5) 1 rfl f_23_73 (by decide) (show xFT[13]? = some (2, 1) from rfl) (by decide) hb hk ?_
    refine r_run 3 (pc' := 79) (ls' := [some (yr b), some (yi y)]) (st' := [yi (((M b 3) - (M b 1)) - y), yi 0]) (M' := M) (N' := N) rfl ?_
    refine r_max f_23_79 (by omega) (by omega) (Nat.le_of_ble_eq_true rfl) (by omega) (fun v79 hv79 => ?_)
    refine r_iret m_23 rfl f_23_82 ?_
    exact ⟨_, rfl, by unfold sFrom; (repeat' split) <;> omega, rfl, rfl⟩
  · refine r_sw_in (pc := 4) 3 f_23_4 (by omega) (by omega) (by omega) rfl ?_
    refine r_run 2 (pc' := 85) (ls' := [some (yr b), some (yi y)]) (st' := [yr b, yi y]) (M' := M) (N' := N) rfl ?_
    refine r_getf (n := 5) 1 rfl f_23_85 (by decide) (show xFT[13]? = some (2, 1) from rfl) (by decide) hb hk ?_
    refine r_icmp_lt (pc := 88) f_23_88 (by omega) (by omega) (fun h88 => ?_) (fun h88 => ?_)
    · refine r_run 1 (pc' := 99) (ls' := [some (yr b), some (yi y)]) (st' := [yr b]) (M' := M) (N' := N) rfl ?_
      refine r_getf (n := 5) 3 rfl f_23_99 (by decide) (show xFT[15]? = some (2, 3) from rfl) (by decide) hb hk ?_
      refine r_run 1 (pc' := 103) (ls' := [some (yr b), some (yi y)]) (st' := [yr b, yi (M b 3)]) (M' := M) (N' := N) rfl ?_
      refine r_getf (n := 5) 1 rfl f_23_103 (by decide) (show xFT[13]? = some (2, 1) from rfl) (by decide) hb hk ?_
      refine r_run 2 (pc' := 108) (ls' := [some (yr b), some (yi y)]) (st' := [yr b, yi ((M b 3) + (M b 1))]) (M' := M) (N' := N) rfl ?_
      refine r_virtual (mj := 25) (b := b) (as := []) (rest := [yi ((M b 3) + (M b 1))]) f_23_108 (by decide) rfl m_25 (by decide) hb (by rw [hk]; rfl) rfl rfl (Nat.le_of_ble_eq_true rfl) (by omega) (c_middle hb hk (by omega) (by omega)) ?_
      rintro _ _ _ ⟨v108, rfl, hv108, rfl, rfl⟩
      refine r_min f_23_111 (by omega) (by omega) (Nat.le_of_ble_eq_true rfl) (by omega) (fun v111 hv111 => ?_)
      refine r_iret m_23 rfl f_23_114 ?_
      exact ⟨_, rfl, by unfold sFrom; (repeat' split) <;> omega, rfl, rfl⟩
    · refine r_run 1 (pc' := 92) (ls' := [some (yr b), some (yi y)]) (st' := [yr b]) (M' := M) (N' := N) rfl ?_
      refine r_virtual (mj := 25) (b := b) (as := []) (rest := []) f_23_92 (by decide) rfl m_25 (by decide) hb (by rw [hk]; rfl) rfl rfl (Nat.le_of_ble_eq_true rfl) (by omega) (c_middle hb hk (by omega) (by omega)) ?_
      rintro _ _ _ ⟨v92, rfl, hv92, rfl, rfl⟩
      refine r_run 1 (pc' := 114) (ls' := [some (yr b), some (yi y)]) (st' := [yi v92]) (M' := M) (N' := N) rfl ?_
      refine r_iret m_23 rfl f_23_114 ?_
      exact ⟨_, rfl, by unfold sFrom; (repeat' split) <;> omega, rfl, rfl⟩
theorem c_upTo {S : XS} {M N : YM} {b : Int} (hb : 0 ≤ b ∧ b < 94) (hk : yk b = (202, 5)) (hs : sOk (M b 0) (M b 1) (M b 3) (M b 4)) {y : Int} (hy : 0 ≤ y ∧ y ≤ 99) : rm S 1 24 [yr b, yi y] M N (fun r M' N' => ∃ v : Int, some (yi v) = r ∧ (v = sUpTo (M b 0) (M b 1) (M b 3) (M b 4) y) ∧ M = M' ∧ N = N') := by
  refine ⟨xe_24, m_24, Nat.le_of_ble_eq_true rfl, ?_⟩
  refine r_run 1 (pc' := 1) (ls' := [some (yr b), some (yi y)]) (st' := [yr b]) (M' := M) (N' := N) rfl ?_
  refine r_getf (n := 5) 0 rfl f_24_1 (by decide) (show xFT[12]? = some (2, 0) from rfl) (by decide) hb hk ?_
  rcases (show (M b 0 < 1 ∨ 5 < M b 0) ∨ M b 0 = 1 ∨ M b 0 = 2 ∨ M b 0 = 3 ∨ M b 0 = 4 ∨ M b 0 = 5 by omega) with h4 | h4 | h4 | h4 | h4 | h4
  · refine r_sw_out (pc := 4) f_24_4 (by omega) h4 ?_
    refine r_run 1 (pc' := 128) (ls' := [some (yr b), some (yi y)]) (st' := [yr b]) (M' := M) (N' := N) rfl ?_
    refine r_getf (n := 5) 4 rfl f_24_128 (by decide) (show xFT[16]? = some (2, 4) from rfl) (by decide) hb hk ?_
    refine r_iret m_24 rfl f_24_131 ?_
    exact ⟨_, rfl, by unfold sUpTo; (repeat' split) <;> omega, rfl, rfl⟩
  · refine r_sw_in (pc := 4) 0 f_24_4 (by omega) (by omega) (by omega) rfl ?_
    refine r_run 2 (pc' := 44) (ls' := [some (yr b), some (yi y)]) (st' := [yr b, yi 999]) (M' := M) (N' := N) rfl ?_
    refine r_getf (n := 5) 4 rfl f_24_44 (by decide) (show xFT[16]? = some (2, 4) from rfl) (by decide) hb hk ?_
    refine r_run 1 (pc' := 48) (ls' := [some (yr b), some (yi y)]) (st' := [yr b, yi (M b 4), yi 999]) (M' := M) (N' := N) rfl ?_
    refine r_getf (n := 5) 1 rfl f_24_48 (by decide) (show xFT[13]? = some (2, 1) from rfl) (by decide) hb hk ?_
    refine r_run 1 (pc' := 52) (ls' := [some (yr b), some (yi y)]) (st' := [yi ((M b 4) + (M b 1)), yi 999]) (M' := M) (N' := N) rfl ?_
    refine r_min f_24_52 (by omega) (by omega) (Nat.le_of_ble_eq_true rfl) (by omega) (fun v52 hv52 => ?_)
    refine r_iret m_24 rfl f_24_55 ?_
    exact ⟨_, rfl, by unfold sUpTo; (repeat' split) <;> omega, rfl, rfl⟩
  · refine r_sw_in (pc := 4) 1 f_24_4 (by omega) (by omega) (by omega) rfl ?_
    refine r_run 1 (pc' := 57) (ls' := [some (yr b), some (yi y)]) (st' := [yr b]) (M' := M) (N' := N) rfl ?_
    refine r_getf (n := 5) 4 rfl f_24_57 (by decide) (show xFT[16]? = some (2, 4) from rfl) (by decide) hb hk ?_
    refine r_run 1 (pc' := 61) (ls' := [some (yr b), some (yi y)]) (st' := [yr b, yi (M b 4)]) (M' := M) (N' := N) rfl ?_
    refine r_getf (n := 5) 1 rfl f_24_61 (by decide) (show xFT[13]? = some (2, 1) from rfl) (by decide) hb hk ?_
    refine r_run 2 (pc' := 66) (ls' := [some (yr b), some (yi y)]) (st' := [yr b, yi ((M b 4) - (M b 1))]) (M' := M) (N' := N) rfl ?_
    refine r_virtual (mj := 25) (b := b) (as := []) (rest := [yi ((M b 4) - (M b 1))]) f_24_66 (by decide) rfl m_25 (by decide) hb (by rw [hk]; rfl) rfl rfl (Nat.le_of_ble_eq_true rfl) (by omega) (c_middle hb hk (by omega) (by omega)) ?_
    rintro _ _ _ ⟨v66, rfl, hv66, rfl, rfl⟩
    refine r_max f_24_69 (by omega) (by omega) (Nat.le_of_ble_eq_true rfl) (by omega) (fun v69 hv69 => ?_)
    refine r_iret m_24 rfl f_24_72 ?_
    exact ⟨_, rfl, by unfold sUpTo; (repeat' split) <;> omega, rfl, rfl⟩
  · refine r_sw_in (pc := 4) 2 f_24_4 (by omega) (by omega) (by omega) rfl ?_
    refine r_run 2 (pc' := 77) (ls' := [some (yr b), some (yi y)]) (st' := [yr b, yi 999]) (M' := M) (N' := N) rfl ?_
    refine r_getf (n := 5) 4 rfl f_24_77 (by decide) (show xFT[16]? = some (2, 4) from rfl) (by decide) hb hk ?_
    refine r_run 1 (pc' := 81) (ls' := [some (yr b), some (yi y)]) (st' := [yr b, yi (M b 4), yi 999]) (M' := M) (N' := N) rfl ?_
    refine r_getf (n := 5) 1 rfl f_24_81 (by decide) (show xFT[13]? = some (2, 1) from rfl) (by decide) hb hk ?_
    refine r_run 3 (pc' := 87) (ls' := [some (yr b), some (yi y)]) (st' := [yi (((M b 4) + (M b 1)) + y), yi 999]) (M' := M) (N' := N) rfl ?_
    refine r_min f_24_87 (by omega) (by omega) (Nat.le_of_ble_eq_true rfl) (by omega) (fun v87 hv87 => ?_)
    refine r_iret m_24 rfl f_24_90 ?_
    exact ⟨_, rfl, by unfold sUpTo; (repeat' split) <;> omega, rfl, rfl⟩
  · refine r_sw_in (pc := 4) 3 f_24_4 (by omega) (by omega) (by omega) rfl ?_
    refine r_run 2 (pc' := 93) (ls' := [some (yr b), some (yi y)]) (st' := [yr b, yi y]) (M' := M) (N' := N) rfl ?_
    refine r_getf (n := 5) 1 rfl f_24_93 (by decide) (show xFT[13]? = some (2, 1) from rfl) (by decide) hb hk ?_
    refine r_icmp_lt (pc := 96) f_24_96 (by omega) (by omega) (fun h96 => ?_) (fun h96 => ?_)
    · refine r_run 1 (pc' := 107) (ls' := [some (yr b), some (yi y)]) (st' := [yr b]) (M' := M) (N' := N) rfl ?_
      refine r_getf (n := 5) 4 rfl f_24_107 (by decide) (show xFT[16]? = some (2, 4) from rfl) (by decide) hb hk ?_
      refine r_run 1 (pc' := 111) (ls' := [some (yr b), some (yi y)]) (st' := [yr b, yi (M b 4)]) (M' := M) (N' := N) rfl ?_
      refine r_getf (n := 5) 1 rfl f_24_111 (by decide) (show xFT[13]? = some (2, 1) from rfl) (by decide) hb hk ?_
      refine r_run 2 (pc' := 116) (ls' := [some (yr b), some (yi y)]) (st' := [yr b, yi ((M b 4) - (M b 1))]) (M' := M) (N' := N) rfl ?_
      refine r_virtual (mj := 25) (b := b) (as := []) (rest := [yi ((M b 4) - (M b 1))]) f_24_116 (by decide) rfl m_25 (by decide) hb (by rw [hk]; rfl) rfl rfl (Nat.le_of_ble_eq_true rfl) (by omega) (c_middle hb hk (by omega) (by omega)) ?_
      rintro _ _ _ ⟨v116, rfl, hv116, rfl, rfl⟩
      refine r_max f_24_119 (by omega) (by omega) (Nat.le_of_ble_eq_true rfl) (by omega) (fun v119 hv119 => ?_)
      refine r_iret m_24 rfl f_24_122 ?_
      exact ⟨_, rfl, by unfold sUpTo; (repeat' split) <;> omega, rfl, rfl⟩
    · refine r_run 1 (pc' := 100) (ls' := [some (yr b), some (yi y)]) (st' := [yr b]) (M' := M) (N' := N) rfl ?_
      refine r_virtual (mj := 25) (b := b) (as := []) (rest := []) f_24_100 (by decide) rfl m_25 (by decide) hb (by rw [hk]; rfl) rfl rfl (Nat.le_of_ble_eq_true rfl) (by omega) (c_middle hb hk (by omega) (by omega)) ?_
      rintro _ _ _ ⟨v100, rfl, hv100, rfl, rfl⟩
      refine r_run 1 (pc' := 122) (ls' := [some (yr b), some (yi y)]) (st' := [yi v100]) (M' := M) (N' := N) rfl ?_
      refine r_iret m_24 rfl f_24_122 ?_
      exact ⟨_, rfl, by unfold sUpTo; (repeat' split) <;> omega, rfl, rfl⟩
  · refine r_sw_in (pc := 4) 4 f_24_4 (by omega) (by omega) (by omega) rfl ?_
    refine r_run 1 (pc' := 126) (ls' := [some (yr b), some (yi y)]) (st' := [yi 999]) (M' := M) (N' := N) rfl ?_
    refine r_iret m_24 rfl f_24_126 ?_
    exact ⟨_, rfl, by unfold sUpTo; (repeat' split) <;> omega, rfl, rfl⟩
theorem m_middle {S : XS} {M N : YM} {s : Int} (hs0 : 0 ≤ s ∧ s < 10) (hs : sOk (M 76 (5 * s)) (M 76 (5 * s + 4)) (M 76 (5 * s + 2)) (M 76 (5 * s + 3)))  : rm S 0 138 [yr 75, yi s] M N (fun r M' N' => ∃ v : Int, some (yi v) = r ∧ (v = (M 76 (5 * s + 2) + M 76 (5 * s + 3)) / 2) ∧ M = M' ∧ N = N') := by
  refine ⟨xe_138, m_138, Nat.le_of_ble_eq_true rfl, ?_⟩
  refine r_run 7 (pc' := 9) (ls' := [some (yr 75), some (yi s)]) (st' := [yi ((5 * s) + 2), yr 76]) (M' := M) (N' := N) rfl ?_
  refine r_iald (n := 50) f_138_9 (by decide) (by decide) (by decide) (by omega) ?_
  refine r_run 7 (pc' := 19) (ls' := [some (yr 75), some (yi s)]) (st' := [yi ((5 * s) + 3), yr 76, yi (M 76 ((5 * s) + 2))]) (M' := M) (N' := N) rfl ?_
  refine r_iald (n := 50) f_138_19 (by decide) (by decide) (by decide) (by omega) ?_
  refine r_run 2 (pc' := 22) (ls' := [some (yr 75), some (yi s)]) (st' := [yi 2, yi ((M 76 ((5 * s) + 2)) + (M 76 ((5 * s) + 3)))]) (M' := M) (N' := N) rfl ?_
  refine r_idiv f_138_22 (by omega) (by omega) ?_
  refine r_iret m_138 rfl f_138_23 ?_
  exact ⟨_, rfl, by omega, rfl, rfl⟩
theorem m_isExact {S : XS} {M N : YM} {s : Int} (hs0 : 0 ≤ s ∧ s < 10) (hs : sOk (M 76 (5 * s)) (M 76 (5 * s + 4)) (M 76 (5 * s + 2)) (M 76 (5 * s + 3))) (hy : 0 ≤ M 75 4 ∧ M 75 4 ≤ 99)  : rm S 0 139 [yr 75, yi s] M N (fun r M' N' => ∃ v : Int, some (yi v) = r ∧ ((v = 1 ∧ M 76 (5 * s) = 4 ∧ M 76 (5 * s + 4) ≤ M 75 4) ∨ (v = 0 ∧ (M 76 (5 * s) ≠ 4 ∨ M 75 4 < M 76 (5 * s + 4)))) ∧ M = M' ∧ N = N') := by
  refine ⟨xe_139, m_139, Nat.le_of_ble_eq_true rfl, ?_⟩
  refine r_run 5 (pc' := 7) (ls' := [some (yr 75), some (yi s)]) (st' := [yi (5 * s), yr 76]) (M' := M) (N' := N) rfl ?_
  refine r_iald (n := 50) f_139_7 (by decide) (by decide) (by decide) (by omega) ?_
  refine r_run 1 (pc' := 9) (ls' := [some (yr 75), some (yi s)]) (st' := [yi 4, yi (M 76 (5 * s))]) (M' := M) (N' := N) rfl ?_
  refine r_icmp_ne (pc := 9) f_139_9 (by omega) (by omega) (fun h9 => ?_) (fun h9 => ?_)
  · refine r_run 1 (pc' := 34) (ls' := [some (yr 75), some (yi s)]) (st' := [yi 0]) (M' := M) (N' := N) rfl ?_
    refine r_zret m_139 rfl f_139_34 (by omega) ?_
    exact ⟨_, rfl, by omega, rfl, rfl⟩
  · refine r_run 9 (pc' := 25) (ls' := [some (yr 75), some (yi s)]) (st' := [yi ((5 * s) + 4), yr 76, yi (M 75 4)]) (M' := M) (N' := N) rfl ?_
    refine r_iald (n := 50) f_139_25 (by decide) (by decide) (by decide) (by omega) ?_
    refine r_icmp_lt (pc := 26) f_139_26 (by omega) (by omega) (fun h26 => ?_) (fun h26 => ?_)
    · refine r_run 1 (pc' := 34) (ls' := [some (yr 75), some (yi s)]) (st' := [yi 0]) (M' := M) (N' := N) rfl ?_
      refine r_zret m_139 rfl f_139_34 (by omega) ?_
      exact ⟨_, rfl, by omega, rfl, rfl⟩
    · refine r_run 2 (pc' := 34) (ls' := [some (yr 75), some (yi s)]) (st' := [yi 1]) (M' := M) (N' := N) rfl ?_
      refine r_zret m_139 rfl f_139_34 (by omega) ?_
      exact ⟨_, rfl, by omega, rfl, rfl⟩
theorem m_fromOf {S : XS} {M N : YM} {s : Int} (hs0 : 0 ≤ s ∧ s < 10) (hs : sOk (M 76 (5 * s)) (M 76 (5 * s + 4)) (M 76 (5 * s + 2)) (M 76 (5 * s + 3))) (hy : 0 ≤ M 75 4 ∧ M 75 4 ≤ 99)  : rm S 1 140 [yr 75, yi s] M N (fun r M' N' => ∃ v : Int, some (yi v) = r ∧ (v = sFrom (M 76 (5 * s)) (M 76 (5 * s + 4)) (M 76 (5 * s + 2)) (M 76 (5 * s + 3)) (M 75 4)) ∧ M = M' ∧ N = N') := by
  refine ⟨xe_140, m_140, Nat.le_of_ble_eq_true rfl, ?_⟩
  refine r_run 5 (pc' := 7) (ls' := [some (yr 75), some (yi s), none, none, none, none]) (st' := [yi (5 * s), yr 76]) (M' := M) (N' := N) rfl ?_
  refine r_iald (n := 50) f_140_7 (by decide) (by decide) (by decide) (by omega) ?_
  refine r_run 8 (pc' := 18) (ls' := [some (yr 75), some (yi s), some (yi (M 76 (5 * s))), none, none, none]) (st' := [yi ((5 * s) + 2), yr 76]) (M' := M) (N' := N) rfl ?_
  refine r_iald (n := 50) f_140_18 (by decide) (by decide) (by decide) (by omega) ?_
  refine r_run 8 (pc' := 29) (ls' := [some (yr 75), some (yi s), some (yi (M 76 (5 * s))), some (yi (M 76 ((5 * s) + 2))), none, none]) (st' := [yi ((5 * s) + 4), yr 76]) (M' := M) (N' := N) rfl ?_
  refine r_iald (n := 50) f_140_29 (by decide) (by decide) (by decide) (by omega) ?_
  refine r_run 5 (pc' := 37) (ls' := [some (yr 75), some (yi s), some (yi (M 76 (5 * s))), some (yi (M 76 ((5 * s) + 2))), some (yi (M 76 ((5 * s) + 4))), some (yi (M 76 ((5 * s) + 2)))]) (st' := [yi 1, yi (M 76 (5 * s))]) (M' := M) (N' := N) rfl ?_
  refine r_icmp_eq (pc := 37) f_140_37 (by omega) (by omega) (fun h37 => ?_) (fun h37 => ?_)
  · refine r_run 5 (pc' := 51) (ls' := [some (yr 75), some (yi s), some (yi (M 76 (5 * s))), some (yi (M 76 ((5 * s) + 2))), some (yi (M 76 ((5 * s) + 4))), some (yi (M 76 ((5 * s) + 2)))]) (st' := [yi 3, yi (M 76 (5 * s)), yi ((M 76 ((5 * s) + 2)) - (M 76 ((5 * s) + 4)))]) (M' := M) (N' := N) rfl ?_
    refine r_icmp_ne (pc := 51) f_140_51 (by omega) (by omega) (fun h51 => ?_) (fun h51 => ?_)
    · refine r_run 5 (pc' := 67) (ls' := [some (yr 75), some (yi s), some (yi (M 76 (5 * s))), some (yi (M 76 ((5 * s) + 2))), some (yi (M 76 ((5 * s) + 4))), some (yi (((M 76 ((5 * s) + 2)) - (M 76 ((5 * s) + 4))) - 0))]) (st' := [yi 2, yi (M 76 (5 * s))]) (M' := M) (N' := N) rfl ?_
      refine r_icmp_eq (pc := 67) f_140_67 (by omega) (by omega) (fun h67 => ?_) (fun h67 => ?_)
      · refine r_run 2 (pc' := 77) (ls' := [some (yr 75), some (yi s), some (yi (M 76 (5 * s))), some (yi (M 76 ((5 * s) + 2))), some (yi (M 76 ((5 * s) + 4))), some (yi (((M 76 ((5 * s) + 2)) - (M 76 ((5 * s) + 4))) - 0))]) (st' := [yi s, yr 75]) (M' := M) (N' := N) rfl ?_
        refine r_virtual (mj := 139) (b := 75) (as := [yi s]) (rest := []) f_140_77 (by decide) rfl m_139 (by decide) (by decide) (by decide) rfl rfl (Nat.le_of_ble_eq_true rfl) (by omega) (m_isExact hs0 hs hy) ?_
        rintro _ _ _ ⟨v77, rfl, hv77, rfl, rfl⟩
        refine r_if_ne (pc := 80) f_140_80 (by omega) (fun h80 => ?_) (fun h80 => ?_)
        · refine r_run 2 (pc' := 97) (ls' := [some (yr 75), some (yi s), some (yi (M 76 (5 * s))), some (yi (M 76 ((5 * s) + 2))), some (yi (M 76 ((5 * s) + 4))), some (yi (((M 76 ((5 * s) + 2)) - (M 76 ((5 * s) + 4))) - 0))]) (st' := [yi s, yr 75]) (M' := M) (N' := N) rfl ?_
          refine r_virtual (mj := 138) (b := 75) (as := [yi s]) (rest := []) f_140_97 (by decide) rfl m_138 (by decide) (by decide) (by decide) rfl rfl (Nat.le_of_ble_eq_true rfl) (by omega) (m_middle hs0 hs) ?_
          rintro _ _ _ ⟨v97, rfl, hv97, rfl, rfl⟩
          refine r_run 5 (pc' := 115) (ls' := [some (yr 75), some (yi s), some (yi (M 76 (5 * s))), some (yi (M 76 ((5 * s) + 2))), some (yi (M 76 ((5 * s) + 4))), some (yi v97)]) (st' := [yi 999, yi 0, yi v97]) (M' := M) (N' := N) rfl ?_
          refine r_static (mj := 113) (as := [yi v97, yi 0, yi 999]) (rest := []) f_140_115 (by decide) rfl m_113 rfl rfl rfl (Nat.le_of_ble_eq_true rfl) (by omega) (m_within (by omega) (by omega) (by omega)) ?_
          rintro _ _ _ ⟨v115, rfl, hv115, rfl, rfl⟩
          refine r_iret m_140 rfl f_140_118 ?_
          exact ⟨_, rfl, by unfold sFrom; (repeat' split) <;> omega, rfl, rfl⟩
        · refine r_run 5 (pc' := 89) (ls' := [some (yr 75), some (yi s), some (yi (M 76 (5 * s))), some (yi (M 76 ((5 * s) + 2))), some (yi (M 76 ((5 * s) + 4))), some (yi (((M 76 ((5 * s) + 2)) - (M 76 ((5 * s) + 4))) - 0))]) (st' := [yi s, yr 75, yi ((M 76 ((5 * s) + 2)) + (M 76 ((5 * s) + 4)))]) (M' := M) (N' := N) rfl ?_
          refine r_virtual (mj := 138) (b := 75) (as := [yi s]) (rest := [yi ((M 76 ((5 * s) + 2)) + (M 76 ((5 * s) + 4)))]) f_140_89 (by decide) rfl m_138 (by decide) (by decide) (by decide) rfl rfl (Nat.le_of_ble_eq_true rfl) (by omega) (m_middle hs0 hs) ?_
          rintro _ _ _ ⟨v89, rfl, hv89, rfl, rfl⟩
          refine r_icmp_le (pc := 92) f_140_92 (by omega) (by omega) (fun h92 => ?_) (fun h92 => ?_)
          · refine r_run 7 (pc' := 115) (ls' := [some (yr 75), some (yi s), some (yi (M 76 (5 * s))), some (yi (M 76 ((5 * s) + 2))), some (yi (M 76 ((5 * s) + 4))), some (yi ((M 76 ((5 * s) + 2)) + (M 76 ((5 * s) + 4))))]) (st' := [yi 999, yi 0, yi ((M 76 ((5 * s) + 2)) + (M 76 ((5 * s) + 4)))]) (M' := M) (N' := N) rfl ?_
            refine r_static (mj := 113) (as := [yi ((M 76 ((5 * s) + 2)) + (M 76 ((5 * s) + 4))), yi 0, yi 999]) (rest := []) f_140_115 (by decide) rfl m_113 rfl rfl rfl (Nat.le_of_ble_eq_true rfl) (by omega) (m_within (by omega) (by omega) (by omega)) ?_
            rintro _ _ _ ⟨v115, rfl, hv115, rfl, rfl⟩
            refine r_iret m_140 rfl f_140_118 ?_
            exact ⟨_, rfl, by unfold sFrom; (repeat' split) <;> omega, rfl, rfl⟩
          · refine r_run 2 (pc' := 97) (ls' := [some (yr 75), some (yi s), some (yi (M 76 (5 * s))), some (yi (M 76 ((5 * s) + 2))), some (yi (M 76 ((5 * s) + 4))), some (yi (((M 76 ((5 * s) + 2)) - (M 76 ((5 * s) + 4))) - 0))]) (st' := [yi s, yr 75]) (M' := M) (N' := N) rfl ?_
            refine r_virtual (mj := 138) (b := 75) (as := [yi s]) (rest := []) f_140_97 (by decide) rfl m_138 (by decide) (by decide) (by decide) rfl rfl (Nat.le_of_ble_eq_true rfl) (by omega) (m_middle hs0 hs) ?_
            rintro _ _ _ ⟨v97, rfl, hv97, rfl, rfl⟩
            refine r_run 5 (pc' := 115) (ls' := [some (yr 75), some (yi s), some (yi (M 76 (5 * s))), some (yi (M 76 ((5 * s) + 2))), some (yi (M 76 ((5 * s) + 4))), some (yi v97)]) (st' := [yi 999, yi 0, yi v97]) (M' := M) (N' := N) rfl ?_
            refine r_static (mj := 113) (as := [yi v97, yi 0, yi 999]) (rest := []) f_140_115 (by decide) rfl m_113 rfl rfl rfl (Nat.le_of_ble_eq_true rfl) (by omega) (m_within (by omega) (by omega) (by omega)) ?_
            rintro _ _ _ ⟨v115, rfl, hv115, rfl, rfl⟩
            refine r_iret m_140 rfl f_140_118 ?_
            exact ⟨_, rfl, by unfold sFrom; (repeat' split) <;> omega, rfl, rfl⟩
      · refine r_run 2 (pc' := 72) (ls' := [some (yr 75), some (yi s), some (yi (M 76 (5 * s))), some (yi (M 76 ((5 * s) + 2))), some (yi (M 76 ((5 * s) + 4))), some (yi (((M 76 ((5 * s) + 2)) - (M 76 ((5 * s) + 4))) - 0))]) (st' := [yi 4, yi (M 76 (5 * s))]) (M' := M) (N' := N) rfl ?_
        refine r_icmp_ne (pc := 72) f_140_72 (by omega) (by omega) (fun h72 => ?_) (fun h72 => ?_)
        · refine r_run 3 (pc' := 115) (ls' := [some (yr 75), some (yi s), some (yi (M 76 (5 * s))), some (yi (M 76 ((5 * s) + 2))), some (yi (M 76 ((5 * s) + 4))), some (yi (((M 76 ((5 * s) + 2)) - (M 76 ((5 * s) + 4))) - 0))]) (st' := [yi 999, yi 0, yi (((M 76 ((5 * s) + 2)) - (M 76 ((5 * s) + 4))) - 0)]) (M' := M) (N' := N) rfl ?_
          refine r_static (mj := 113) (as := [yi (((M 76 ((5 * s) + 2)) - (M 76 ((5 * s) + 4))) - 0), yi 0, yi 999]) (rest := []) f_140_115 (by decide) rfl m_113 rfl rfl rfl (Nat.le_of_ble_eq_true rfl) (by omega) (m_within (by omega) (by omega) (by omega)) ?_
          rintro _ _ _ ⟨v115, rfl, hv115, rfl, rfl⟩
          refine r_iret m_140 rfl f_140_118 ?_
          exact ⟨_, rfl, by unfold sFrom; (repeat' split) <;> omega, rfl, rfl⟩
        · refine r_run 2 (pc' := 77) (ls' := [some (yr 75), some (yi s), some (yi (M 76 (5 * s))), some (yi (M 76 ((5 * s) + 2))), some (yi (M 76 ((5 * s) + 4))), some (yi (((M 76 ((5 * s) + 2)) - (M 76 ((5 * s) + 4))) - 0))]) (st' := [yi s, yr 75]) (M' := M) (N' := N) rfl ?_
          refine r_virtual (mj := 139) (b := 75) (as := [yi s]) (rest := []) f_140_77 (by decide) rfl m_139 (by decide) (by decide) (by decide) rfl rfl (Nat.le_of_ble_eq_true rfl) (by omega) (m_isExact hs0 hs hy) ?_
          rintro _ _ _ ⟨v77, rfl, hv77, rfl, rfl⟩
          refine r_if_ne (pc := 80) f_140_80 (by omega) (fun h80 => ?_) (fun h80 => ?_)
          · refine r_run 2 (pc' := 97) (ls' := [some (yr 75), some (yi s), some (yi (M 76 (5 * s))), some (yi (M 76 ((5 * s) + 2))), some (yi (M 76 ((5 * s) + 4))), some (yi (((M 76 ((5 * s) + 2)) - (M 76 ((5 * s) + 4))) - 0))]) (st' := [yi s, yr 75]) (M' := M) (N' := N) rfl ?_
            refine r_virtual (mj := 138) (b := 75) (as := [yi s]) (rest := []) f_140_97 (by decide) rfl m_138 (by decide) (by decide) (by decide) rfl rfl (Nat.le_of_ble_eq_true rfl) (by omega) (m_middle hs0 hs) ?_
            rintro _ _ _ ⟨v97, rfl, hv97, rfl, rfl⟩
            refine r_run 5 (pc' := 115) (ls' := [some (yr 75), some (yi s), some (yi (M 76 (5 * s))), some (yi (M 76 ((5 * s) + 2))), some (yi (M 76 ((5 * s) + 4))), some (yi v97)]) (st' := [yi 999, yi 0, yi v97]) (M' := M) (N' := N) rfl ?_
            refine r_static (mj := 113) (as := [yi v97, yi 0, yi 999]) (rest := []) f_140_115 (by decide) rfl m_113 rfl rfl rfl (Nat.le_of_ble_eq_true rfl) (by omega) (m_within (by omega) (by omega) (by omega)) ?_
            rintro _ _ _ ⟨v115, rfl, hv115, rfl, rfl⟩
            refine r_iret m_140 rfl f_140_118 ?_
            exact ⟨_, rfl, by unfold sFrom; (repeat' split) <;> omega, rfl, rfl⟩
          · refine r_run 5 (pc' := 89) (ls' := [some (yr 75), some (yi s), some (yi (M 76 (5 * s))), some (yi (M 76 ((5 * s) + 2))), some (yi (M 76 ((5 * s) + 4))), some (yi (((M 76 ((5 * s) + 2)) - (M 76 ((5 * s) + 4))) - 0))]) (st' := [yi s, yr 75, yi ((M 76 ((5 * s) + 2)) + (M 76 ((5 * s) + 4)))]) (M' := M) (N' := N) rfl ?_
            refine r_virtual (mj := 138) (b := 75) (as := [yi s]) (rest := [yi ((M 76 ((5 * s) + 2)) + (M 76 ((5 * s) + 4)))]) f_140_89 (by decide) rfl m_138 (by decide) (by decide) (by decide) rfl rfl (Nat.le_of_ble_eq_true rfl) (by omega) (m_middle hs0 hs) ?_
            rintro _ _ _ ⟨v89, rfl, hv89, rfl, rfl⟩
            refine r_icmp_le (pc := 92) f_140_92 (by omega) (by omega) (fun h92 => ?_) (fun h92 => ?_)
            · refine r_run 7 (pc' := 115) (ls' := [some (yr 75), some (yi s), some (yi (M 76 (5 * s))), some (yi (M 76 ((5 * s) + 2))), some (yi (M 76 ((5 * s) + 4))), some (yi ((M 76 ((5 * s) + 2)) + (M 76 ((5 * s) + 4))))]) (st' := [yi 999, yi 0, yi ((M 76 ((5 * s) + 2)) + (M 76 ((5 * s) + 4)))]) (M' := M) (N' := N) rfl ?_
              refine r_static (mj := 113) (as := [yi ((M 76 ((5 * s) + 2)) + (M 76 ((5 * s) + 4))), yi 0, yi 999]) (rest := []) f_140_115 (by decide) rfl m_113 rfl rfl rfl (Nat.le_of_ble_eq_true rfl) (by omega) (m_within (by omega) (by omega) (by omega)) ?_
              rintro _ _ _ ⟨v115, rfl, hv115, rfl, rfl⟩
              refine r_iret m_140 rfl f_140_118 ?_
              exact ⟨_, rfl, by unfold sFrom; (repeat' split) <;> omega, rfl, rfl⟩
            · refine r_run 2 (pc' := 97) (ls' := [some (yr 75), some (yi s), some (yi (M 76 (5 * s))), some (yi (M 76 ((5 * s) + 2))), some (yi (M 76 ((5 * s) + 4))), some (yi (((M 76 ((5 * s) + 2)) - (M 76 ((5 * s) + 4))) - 0))]) (st' := [yi s, yr 75]) (M' := M) (N' := N) rfl ?_
              refine r_virtual (mj := 138) (b := 75) (as := [yi s]) (rest := []) f_140_97 (by decide) rfl m_138 (by decide) (by decide) (by decide) rfl rfl (Nat.le_of_ble_eq_true rfl) (by omega) (m_middle hs0 hs) ?_
              rintro _ _ _ ⟨v97, rfl, hv97, rfl, rfl⟩
              refine r_run 5 (pc' := 115) (ls' := [some (yr 75), some (yi s), some (yi (M 76 (5 * s))), some (yi (M 76 ((5 * s) + 2))), some (yi (M 76 ((5 * s) + 4))), some (yi v97)]) (st' := [yi 999, yi 0, yi v97]) (M' := M) (N' := N) rfl ?_
              refine r_static (mj := 113) (as := [yi v97, yi 0, yi 999]) (rest := []) f_140_115 (by decide) rfl m_113 rfl rfl rfl (Nat.le_of_ble_eq_true rfl) (by omega) (m_within (by omega) (by omega) (by omega)) ?_
              rintro _ _ _ ⟨v115, rfl, hv115, rfl, rfl⟩
              refine r_iret m_140 rfl f_140_118 ?_
              exact ⟨_, rfl, by unfold sFrom; (repeat' split) <;> omega, rfl, rfl⟩
    · refine r_run 7 (pc' := 67) (ls' := [some (yr 75), some (yi s), some (yi (M 76 (5 * s))), some (yi (M 76 ((5 * s) + 2))), some (yi (M 76 ((5 * s) + 4))), some (yi (((M 76 ((5 * s) + 2)) - (M 76 ((5 * s) + 4))) - (M 75 4)))]) (st' := [yi 2, yi (M 76 (5 * s))]) (M' := M) (N' := N) rfl ?_
      refine r_icmp_eq (pc := 67) f_140_67 (by omega) (by omega) (fun h67 => ?_) (fun h67 => ?_)
      · refine r_run 2 (pc' := 77) (ls' := [some (yr 75), some (yi s), some (yi (M 76 (5 * s))), some (yi (M 76 ((5 * s) + 2))), some (yi (M 76 ((5 * s) + 4))), some (yi (((M 76 ((5 * s) + 2)) - (M 76 ((5 * s) + 4))) - (M 75 4)))]) (st' := [yi s, yr 75]) (M' := M) (N' := N) rfl ?_
        refine r_virtual (mj := 139) (b := 75) (as := [yi s]) (rest := []) f_140_77 (by decide) rfl m_139 (by decide) (by decide) (by decide) rfl rfl (Nat.le_of_ble_eq_true rfl) (by omega) (m_isExact hs0 hs hy) ?_
        rintro _ _ _ ⟨v77, rfl, hv77, rfl, rfl⟩
        refine r_if_ne (pc := 80) f_140_80 (by omega) (fun h80 => ?_) (fun h80 => ?_)
        · refine r_run 2 (pc' := 97) (ls' := [some (yr 75), some (yi s), some (yi (M 76 (5 * s))), some (yi (M 76 ((5 * s) + 2))), some (yi (M 76 ((5 * s) + 4))), some (yi (((M 76 ((5 * s) + 2)) - (M 76 ((5 * s) + 4))) - (M 75 4)))]) (st' := [yi s, yr 75]) (M' := M) (N' := N) rfl ?_
          refine r_virtual (mj := 138) (b := 75) (as := [yi s]) (rest := []) f_140_97 (by decide) rfl m_138 (by decide) (by decide) (by decide) rfl rfl (Nat.le_of_ble_eq_true rfl) (by omega) (m_middle hs0 hs) ?_
          rintro _ _ _ ⟨v97, rfl, hv97, rfl, rfl⟩
          refine r_run 5 (pc' := 115) (ls' := [some (yr 75), some (yi s), some (yi (M 76 (5 * s))), some (yi (M 76 ((5 * s) + 2))), some (yi (M 76 ((5 * s) + 4))), some (yi v97)]) (st' := [yi 999, yi 0, yi v97]) (M' := M) (N' := N) rfl ?_
          refine r_static (mj := 113) (as := [yi v97, yi 0, yi 999]) (rest := []) f_140_115 (by decide) rfl m_113 rfl rfl rfl (Nat.le_of_ble_eq_true rfl) (by omega) (m_within (by omega) (by omega) (by omega)) ?_
          rintro _ _ _ ⟨v115, rfl, hv115, rfl, rfl⟩
          refine r_iret m_140 rfl f_140_118 ?_
          exact ⟨_, rfl, by unfold sFrom; (repeat' split) <;> omega, rfl, rfl⟩
        · refine r_run 5 (pc' := 89) (ls' := [some (yr 75), some (yi s), some (yi (M 76 (5 * s))), some (yi (M 76 ((5 * s) + 2))), some (yi (M 76 ((5 * s) + 4))), some (yi (((M 76 ((5 * s) + 2)) - (M 76 ((5 * s) + 4))) - (M 75 4)))]) (st' := [yi s, yr 75, yi ((M 76 ((5 * s) + 2)) + (M 76 ((5 * s) + 4)))]) (M' := M) (N' := N) rfl ?_
          refine r_virtual (mj := 138) (b := 75) (as := [yi s]) (rest := [yi ((M 76 ((5 * s) + 2)) + (M 76 ((5 * s) + 4)))]) f_140_89 (by decide) rfl m_138 (by decide) (by decide) (by decide) rfl rfl (Nat.le_of_ble_eq_true rfl) (by omega) (m_middle hs0 hs) ?_
          rintro _ _ _ ⟨v89, rfl, hv89, rfl, rfl⟩
          refine r_icmp_le (pc := 92) f_140_92 (by omega) (by omega) (fun h92 => ?_) (fun h92 => ?_)
          · refine r_run 7 (pc' := 115) (ls' := [some (yr 75), some (yi s), some (yi (M 76 (5 * s))), some (yi (M 76 ((5 * s) + 2))), some (yi (M 76 ((5 * s) + 4))), some (yi ((M 76 ((5 * s) + 2)) + (M 76 ((5 * s) + 4))))]) (st' := [yi 999, yi 0, yi ((M 76 ((5 * s) + 2)) + (M 76 ((5 * s) + 4)))]) (M' := M) (N' := N) rfl ?_
            refine r_static (mj := 113) (as := [yi ((M 76 ((5 * s) + 2)) + (M 76 ((5 * s) + 4))), yi 0, yi 999]) (rest := []) f_140_115 (by decide) rfl m_113 rfl rfl rfl (Nat.le_of_ble_eq_true rfl) (by omega) (m_within (by omega) (by omega) (by omega)) ?_
            rintro _ _ _ ⟨v115, rfl, hv115, rfl, rfl⟩
            refine r_iret m_140 rfl f_140_118 ?_
            exact ⟨_, rfl, by unfold sFrom; (repeat' split) <;> omega, rfl, rfl⟩
          · refine r_run 2 (pc' := 97) (ls' := [some (yr 75), some (yi s), some (yi (M 76 (5 * s))), some (yi (M 76 ((5 * s) + 2))), some (yi (M 76 ((5 * s) + 4))), some (yi (((M 76 ((5 * s) + 2)) - (M 76 ((5 * s) + 4))) - (M 75 4)))]) (st' := [yi s, yr 75]) (M' := M) (N' := N) rfl ?_
            refine r_virtual (mj := 138) (b := 75) (as := [yi s]) (rest := []) f_140_97 (by decide) rfl m_138 (by decide) (by decide) (by decide) rfl rfl (Nat.le_of_ble_eq_true rfl) (by omega) (m_middle hs0 hs) ?_
            rintro _ _ _ ⟨v97, rfl, hv97, rfl, rfl⟩
            refine r_run 5 (pc' := 115) (ls' := [some (yr 75), some (yi s), some (yi (M 76 (5 * s))), some (yi (M 76 ((5 * s) + 2))), some (yi (M 76 ((5 * s) + 4))), some (yi v97)]) (st' := [yi 999, yi 0, yi v97]) (M' := M) (N' := N) rfl ?_
            refine r_static (mj := 113) (as := [yi v97, yi 0, yi 999]) (rest := []) f_140_115 (by decide) rfl m_113 rfl rfl rfl (Nat.le_of_ble_eq_true rfl) (by omega) (m_within (by omega) (by omega) (by omega)) ?_
            rintro _ _ _ ⟨v115, rfl, hv115, rfl, rfl⟩
            refine r_iret m_140 rfl f_140_118 ?_
            exact ⟨_, rfl, by unfold sFrom; (repeat' split) <;> omega, rfl, rfl⟩
      · refine r_run 2 (pc' := 72) (ls' := [some (yr 75), some (yi s), some (yi (M 76 (5 * s))), some (yi (M 76 ((5 * s) + 2))), some (yi (M 76 ((5 * s) + 4))), some (yi (((M 76 ((5 * s) + 2)) - (M 76 ((5 * s) + 4))) - (M 75 4)))]) (st' := [yi 4, yi (M 76 (5 * s))]) (M' := M) (N' := N) rfl ?_
        refine r_icmp_ne (pc := 72) f_140_72 (by omega) (by omega) (fun h72 => ?_) (fun h72 => ?_)
        · refine r_run 3 (pc' := 115) (ls' := [some (yr 75), some (yi s), some (yi (M 76 (5 * s))), some (yi (M 76 ((5 * s) + 2))), some (yi (M 76 ((5 * s) + 4))), some (yi (((M 76 ((5 * s) + 2)) - (M 76 ((5 * s) + 4))) - (M 75 4)))]) (st' := [yi 999, yi 0, yi (((M 76 ((5 * s) + 2)) - (M 76 ((5 * s) + 4))) - (M 75 4))]) (M' := M) (N' := N) rfl ?_
          refine r_static (mj := 113) (as := [yi (((M 76 ((5 * s) + 2)) - (M 76 ((5 * s) + 4))) - (M 75 4)), yi 0, yi 999]) (rest := []) f_140_115 (by decide) rfl m_113 rfl rfl rfl (Nat.le_of_ble_eq_true rfl) (by omega) (m_within (by omega) (by omega) (by omega)) ?_
          rintro _ _ _ ⟨v115, rfl, hv115, rfl, rfl⟩
          refine r_iret m_140 rfl f_140_118 ?_
          exact ⟨_, rfl, by unfold sFrom; (repeat' split) <;> omega, rfl, rfl⟩
        · refine r_run 2 (pc' := 77) (ls' := [some (yr 75), some (yi s), some (yi (M 76 (5 * s))), some (yi (M 76 ((5 * s) + 2))), some (yi (M 76 ((5 * s) + 4))), some (yi (((M 76 ((5 * s) + 2)) - (M 76 ((5 * s) + 4))) - (M 75 4)))]) (st' := [yi s, yr 75]) (M' := M) (N' := N) rfl ?_
          refine r_virtual (mj := 139) (b := 75) (as := [yi s]) (rest := []) f_140_77 (by decide) rfl m_139 (by decide) (by decide) (by decide) rfl rfl (Nat.le_of_ble_eq_true rfl) (by omega) (m_isExact hs0 hs hy) ?_
          rintro _ _ _ ⟨v77, rfl, hv77, rfl, rfl⟩
          refine r_if_ne (pc := 80) f_140_80 (by omega) (fun h80 => ?_) (fun h80 => ?_)
          · refine r_run 2 (pc' := 97) (ls' := [some (yr 75), some (yi s), some (yi (M 76 (5 * s))), some (yi (M 76 ((5 * s) + 2))), some (yi (M 76 ((5 * s) + 4))), some (yi (((M 76 ((5 * s) + 2)) - (M 76 ((5 * s) + 4))) - (M 75 4)))]) (st' := [yi s, yr 75]) (M' := M) (N' := N) rfl ?_
            refine r_virtual (mj := 138) (b := 75) (as := [yi s]) (rest := []) f_140_97 (by decide) rfl m_138 (by decide) (by decide) (by decide) rfl rfl (Nat.le_of_ble_eq_true rfl) (by omega) (m_middle hs0 hs) ?_
            rintro _ _ _ ⟨v97, rfl, hv97, rfl, rfl⟩
            refine r_run 5 (pc' := 115) (ls' := [some (yr 75), some (yi s), some (yi (M 76 (5 * s))), some (yi (M 76 ((5 * s) + 2))), some (yi (M 76 ((5 * s) + 4))), some (yi v97)]) (st' := [yi 999, yi 0, yi v97]) (M' := M) (N' := N) rfl ?_
            refine r_static (mj := 113) (as := [yi v97, yi 0, yi 999]) (rest := []) f_140_115 (by decide) rfl m_113 rfl rfl rfl (Nat.le_of_ble_eq_true rfl) (by omega) (m_within (by omega) (by omega) (by omega)) ?_
            rintro _ _ _ ⟨v115, rfl, hv115, rfl, rfl⟩
            refine r_iret m_140 rfl f_140_118 ?_
            exact ⟨_, rfl, by unfold sFrom; (repeat' split) <;> omega, rfl, rfl⟩
          · refine r_run 5 (pc' := 89) (ls' := [some (yr 75), some (yi s), some (yi (M 76 (5 * s))), some (yi (M 76 ((5 * s) + 2))), some (yi (M 76 ((5 * s) + 4))), some (yi (((M 76 ((5 * s) + 2)) - (M 76 ((5 * s) + 4))) - (M 75 4)))]) (st' := [yi s, yr 75, yi ((M 76 ((5 * s) + 2)) + (M 76 ((5 * s) + 4)))]) (M' := M) (N' := N) rfl ?_
            refine r_virtual (mj := 138) (b := 75) (as := [yi s]) (rest := [yi ((M 76 ((5 * s) + 2)) + (M 76 ((5 * s) + 4)))]) f_140_89 (by decide) rfl m_138 (by decide) (by decide) (by decide) rfl rfl (Nat.le_of_ble_eq_true rfl) (by omega) (m_middle hs0 hs) ?_
            rintro _ _ _ ⟨v89, rfl, hv89, rfl, rfl⟩
            refine r_icmp_le (pc := 92) f_140_92 (by omega) (by omega) (fun h92 => ?_) (fun h92 => ?_)
            · refine r_run 7 (pc' := 115) (ls' := [some (yr 75), some (yi s), some (yi (M 76 (5 * s))), some (yi (M 76 ((5 * s) + 2))), some (yi (M 76 ((5 * s) + 4))), some (yi ((M 76 ((5 * s) + 2)) + (M 76 ((5 * s) + 4))))]) (st' := [yi 999, yi 0, yi ((M 76 ((5 * s) + 2)) + (M 76 ((5 * s) + 4)))]) (M' := M) (N' := N) rfl ?_
              refine r_static (mj := 113) (as := [yi ((M 76 ((5 * s) + 2)) + (M 76 ((5 * s) + 4))), yi 0, yi 999]) (rest := []) f_140_115 (by decide) rfl m_113 rfl rfl rfl (Nat.le_of_ble_eq_true rfl) (by omega) (m_within (by omega) (by omega) (by omega)) ?_
              rintro _ _ _ ⟨v115, rfl, hv115, rfl, rfl⟩
              refine r_iret m_140 rfl f_140_118 ?_
              exact ⟨_, rfl, by unfold sFrom; (repeat' split) <;> omega, rfl, rfl⟩
            · refine r_run 2 (pc' := 97) (ls' := [some (yr 75), some (yi s), some (yi (M 76 (5 * s))), some (yi (M 76 ((5 * s) + 2))), some (yi (M 76 ((5 * s) + 4))), some (yi (((M 76 ((5 * s) + 2)) - (M 76 ((5 * s) + 4))) - (M 75 4)))]) (st' := [yi s, yr 75]) (M' := M) (N' := N) rfl ?_
              refine r_virtual (mj := 138) (b := 75) (as := [yi s]) (rest := []) f_140_97 (by decide) rfl m_138 (by decide) (by decide) (by decide) rfl rfl (Nat.le_of_ble_eq_true rfl) (by omega) (m_middle hs0 hs) ?_
              rintro _ _ _ ⟨v97, rfl, hv97, rfl, rfl⟩
              refine r_run 5 (pc' := 115) (ls' := [some (yr 75), some (yi s), some (yi (M 76 (5 * s))), some (yi (M 76 ((5 * s) + 2))), some (yi (M 76 ((5 * s) + 4))), some (yi v97)]) (st' := [yi 999, yi 0, yi v97]) (M' := M) (N' := N) rfl ?_
              refine r_static (mj := 113) (as := [yi v97, yi 0, yi 999]) (rest := []) f_140_115 (by decide) rfl m_113 rfl rfl rfl (Nat.le_of_ble_eq_true rfl) (by omega) (m_within (by omega) (by omega) (by omega)) ?_
              rintro _ _ _ ⟨v115, rfl, hv115, rfl, rfl⟩
              refine r_iret m_140 rfl f_140_118 ?_
              exact ⟨_, rfl, by unfold sFrom; (repeat' split) <;> omega, rfl, rfl⟩
  · refine r_run 2 (pc' := 42) (ls' := [some (yr 75), some (yi s), some (yi (M 76 (5 * s))), some (yi (M 76 ((5 * s) + 2))), some (yi (M 76 ((5 * s) + 4))), some (yi (M 76 ((5 * s) + 2)))]) (st' := [yi 3, yi (M 76 (5 * s))]) (M' := M) (N' := N) rfl ?_
    refine r_icmp_ne (pc := 42) f_140_42 (by omega) (by omega) (fun h42 => ?_) (fun h42 => ?_)
    · refine r_run 2 (pc' := 67) (ls' := [some (yr 75), some (yi s), some (yi (M 76 (5 * s))), some (yi (M 76 ((5 * s) + 2))), some (yi (M 76 ((5 * s) + 4))), some (yi (M 76 ((5 * s) + 2)))]) (st' := [yi 2, yi (M 76 (5 * s))]) (M' := M) (N' := N) rfl ?_
      refine r_icmp_eq (pc := 67) f_140_67 (by omega) (by omega) (fun h67 => ?_) (fun h67 => ?_)
      · refine r_run 2 (pc' := 77) (ls' := [some (yr 75), some (yi s), some (yi (M 76 (5 * s))), some (yi (M 76 ((5 * s) + 2))), some (yi (M 76 ((5 * s) + 4))), some (yi (M 76 ((5 * s) + 2)))]) (st' := [yi s, yr 75]) (M' := M) (N' := N) rfl ?_
        refine r_virtual (mj := 139) (b := 75) (as := [yi s]) (rest := []) f_140_77 (by decide) rfl m_139 (by decide) (by decide) (by decide) rfl rfl (Nat.le_of_ble_eq_true rfl) (by omega) (m_isExact hs0 hs hy) ?_
        rintro _ _ _ ⟨v77, rfl, hv77, rfl, rfl⟩
        refine r_if_ne (pc := 80) f_140_80 (by omega) (fun h80 => ?_) (fun h80 => ?_)
        · refine r_run 2 (pc' := 97) (ls' := [some (yr 75), some (yi s), some (yi (M 76 (5 * s))), some (yi (M 76 ((5 * s) + 2))), some (yi (M 76 ((5 * s) + 4))), some (yi (M 76 ((5 * s) + 2)))]) (st' := [yi s, yr 75]) (M' := M) (N' := N) rfl ?_
          refine r_virtual (mj := 138) (b := 75) (as := [yi s]) (rest := []) f_140_97 (by decide) rfl m_138 (by decide) (by decide) (by decide) rfl rfl (Nat.le_of_ble_eq_true rfl) (by omega) (m_middle hs0 hs) ?_
          rintro _ _ _ ⟨v97, rfl, hv97, rfl, rfl⟩
          refine r_run 5 (pc' := 115) (ls' := [some (yr 75), some (yi s), some (yi (M 76 (5 * s))), some (yi (M 76 ((5 * s) + 2))), some (yi (M 76 ((5 * s) + 4))), some (yi v97)]) (st' := [yi 999, yi 0, yi v97]) (M' := M) (N' := N) rfl ?_
          refine r_static (mj := 113) (as := [yi v97, yi 0, yi 999]) (rest := []) f_140_115 (by decide) rfl m_113 rfl rfl rfl (Nat.le_of_ble_eq_true rfl) (by omega) (m_within (by omega) (by omega) (by omega)) ?_
          rintro _ _ _ ⟨v115, rfl, hv115, rfl, rfl⟩
          refine r_iret m_140 rfl f_140_118 ?_
          exact ⟨_, rfl, by unfold sFrom; (repeat' split) <;> omega, rfl, rfl⟩
        · refine r_run 5 (pc' := 89) (ls' := [some (yr 75), some (yi s), some (yi (M 76 (5 * s))), some (yi (M 76 ((5 * s) + 2))), some (yi (M 76 ((5 * s) + 4))), some (yi (M 76 ((5 * s) + 2)))]) (st' := [yi s, yr 75, yi ((M 76 ((5 * s) + 2)) + (M 76 ((5 * s) + 4)))]) (M' := M) (N' := N) rfl ?_
          refine r_virtual (mj := 138) (b := 75) (as := [yi s]) (rest := [yi ((M 76 ((5 * s) + 2)) + (M 76 ((5 * s) + 4)))]) f_140_89 (by decide) rfl m_138 (by decide) (by decide) (by decide) rfl rfl (Nat.le_of_ble_eq_true rfl) (by omega) (m_middle hs0 hs) ?_
          rintro _ _ _ ⟨v89, rfl, hv89, rfl, rfl⟩
          refine r_icmp_le (pc := 92) f_140_92 (by omega) (by omega) (fun h92 => ?_) (fun h92 => ?_)
          · refine r_run 7 (pc' := 115) (ls' := [some (yr 75), some (yi s), some (yi (M 76 (5 * s))), some (yi (M 76 ((5 * s) + 2))), some (yi (M 76 ((5 * s) + 4))), some (yi ((M 76 ((5 * s) + 2)) + (M 76 ((5 * s) + 4))))]) (st' := [yi 999, yi 0, yi ((M 76 ((5 * s) + 2)) + (M 76 ((5 * s) + 4)))]) (M' := M) (N' := N) rfl ?_
            refine r_static (mj := 113) (as := [yi ((M 76 ((5 * s) + 2)) + (M 76 ((5 * s) + 4))), yi 0, yi 999]) (rest := []) f_140_115 (by decide) rfl m_113 rfl rfl rfl (Nat.le_of_ble_eq_true rfl) (by omega) (m_within (by omega) (by omega) (by omega)) ?_
            rintro _ _ _ ⟨v115, rfl, hv115, rfl, rfl⟩
            refine r_iret m_140 rfl f_140_118 ?_
            exact ⟨_, rfl, by unfold sFrom; (repeat' split) <;> omega, rfl, rfl⟩
          · refine r_run 2 (pc' := 97) (ls' := [some (yr 75), some (yi s), some (yi (M 76 (5 * s))), some (yi (M 76 ((5 * s) + 2))), some (yi (M 76 ((5 * s) + 4))), some (yi (M 76 ((5 * s) + 2)))]) (st' := [yi s, yr 75]) (M' := M) (N' := N) rfl ?_
            refine r_virtual (mj := 138) (b := 75) (as := [yi s]) (rest := []) f_140_97 (by decide) rfl m_138 (by decide) (by decide) (by decide) rfl rfl (Nat.le_of_ble_eq_true rfl) (by omega) (m_middle hs0 hs) ?_
            rintro _ _ _ ⟨v97, rfl, hv97, rfl, rfl⟩
            refine r_run 5 (pc' := 115) (ls' := [some (yr 75), some (yi s), some (yi (M 76 (5 * s))), some (yi (M 76 ((5 * s) + 2))), some (yi (M 76 ((5 * s) + 4))), some (yi v97)]) (st' := [yi 999, yi 0, yi v97]) (M' := M) (N' := N) rfl ?_
            refine r_static (mj := 113) (as := [yi v97, yi 0, yi 999]) (rest := []) f_140_115 (by decide) rfl m_113 rfl rfl rfl (Nat.le_of_ble_eq_true rfl) (by omega) (m_within (by omega) (by omega) (by omega)) ?_
            rintro _ _ _ ⟨v115, rfl, hv115, rfl, rfl⟩
            refine r_iret m_140 rfl f_140_118 ?_
            exact ⟨_, rfl, by unfold sFrom; (repeat' split) <;> omega, rfl, rfl⟩
      · refine r_run 2 (pc' := 72) (ls' := [some (yr 75), some (yi s), some (yi (M 76 (5 * s))), some (yi (M 76 ((5 * s) + 2))), some (yi (M 76 ((5 * s) + 4))), some (yi (M 76 ((5 * s) + 2)))]) (st' := [yi 4, yi (M 76 (5 * s))]) (M' := M) (N' := N) rfl ?_
        refine r_icmp_ne (pc := 72) f_140_72 (by omega) (by omega) (fun h72 => ?_) (fun h72 => ?_)
        · refine r_run 3 (pc' := 115) (ls' := [some (yr 75), some (yi s), some (yi (M 76 (5 * s))), some (yi (M 76 ((5 * s) + 2))), some (yi (M 76 ((5 * s) + 4))), some (yi (M 76 ((5 * s) + 2)))]) (st' := [yi 999, yi 0, yi (M 76 ((5 * s) + 2))]) (M' := M) (N' := N) rfl ?_
          refine r_static (mj := 113) (as := [yi (M 76 ((5 * s) + 2)), yi 0, yi 999]) (rest := []) f_140_115 (by decide) rfl m_113 rfl rfl rfl (Nat.le_of_ble_eq_true rfl) (by omega) (m_within (by omega) (by omega) (by omega)) ?_
          rintro _ _ _ ⟨v115, rfl, hv115, rfl, rfl⟩
          refine r_iret m_140 rfl f_140_118 ?_
          exact ⟨_, rfl, by unfold sFrom; (repeat' split) <;> omega, rfl, rfl⟩
        · refine r_run 2 (pc' := 77) (ls' := [some (yr 75), some (yi s), some (yi (M 76 (5 * s))), some (yi (M 76 ((5 * s) + 2))), some (yi (M 76 ((5 * s) + 4))), some (yi (M 76 ((5 * s) + 2)))]) (st' := [yi s, yr 75]) (M' := M) (N' := N) rfl ?_
          refine r_virtual (mj := 139) (b := 75) (as := [yi s]) (rest := []) f_140_77 (by decide) rfl m_139 (by decide) (by decide) (by decide) rfl rfl (Nat.le_of_ble_eq_true rfl) (by omega) (m_isExact hs0 hs hy) ?_
          rintro _ _ _ ⟨v77, rfl, hv77, rfl, rfl⟩
          refine r_if_ne (pc := 80) f_140_80 (by omega) (fun h80 => ?_) (fun h80 => ?_)
          · refine r_run 2 (pc' := 97) (ls' := [some (yr 75), some (yi s), some (yi (M 76 (5 * s))), some (yi (M 76 ((5 * s) + 2))), some (yi (M 76 ((5 * s) + 4))), some (yi (M 76 ((5 * s) + 2)))]) (st' := [yi s, yr 75]) (M' := M) (N' := N) rfl ?_
            refine r_virtual (mj := 138) (b := 75) (as := [yi s]) (rest := []) f_140_97 (by decide) rfl m_138 (by decide) (by decide) (by decide) rfl rfl (Nat.le_of_ble_eq_true rfl) (by omega) (m_middle hs0 hs) ?_
            rintro _ _ _ ⟨v97, rfl, hv97, rfl, rfl⟩
            refine r_run 5 (pc' := 115) (ls' := [some (yr 75), some (yi s), some (yi (M 76 (5 * s))), some (yi (M 76 ((5 * s) + 2))), some (yi (M 76 ((5 * s) + 4))), some (yi v97)]) (st' := [yi 999, yi 0, yi v97]) (M' := M) (N' := N) rfl ?_
            refine r_static (mj := 113) (as := [yi v97, yi 0, yi 999]) (rest := []) f_140_115 (by decide) rfl m_113 rfl rfl rfl (Nat.le_of_ble_eq_true rfl) (by omega) (m_within (by omega) (by omega) (by omega)) ?_
            rintro _ _ _ ⟨v115, rfl, hv115, rfl, rfl⟩
            refine r_iret m_140 rfl f_140_118 ?_
            exact ⟨_, rfl, by unfold sFrom; (repeat' split) <;> omega, rfl, rfl⟩
          · refine r_run 5 (pc' := 89) (ls' := [some (yr 75), some (yi s), some (yi (M 76 (5 * s))), some (yi (M 76 ((5 * s) + 2))), some (yi (M 76 ((5 * s) + 4))), some (yi (M 76 ((5 * s) + 2)))]) (st' := [yi s, yr 75, yi ((M 76 ((5 * s) + 2)) + (M 76 ((5 * s) + 4)))]) (M' := M) (N' := N) rfl ?_
            refine r_virtual (mj := 138) (b := 75) (as := [yi s]) (rest := [yi ((M 76 ((5 * s) + 2)) + (M 76 ((5 * s) + 4)))]) f_140_89 (by decide) rfl m_138 (by decide) (by decide) (by decide) rfl rfl (Nat.le_of_ble_eq_true rfl) (by omega) (m_middle hs0 hs) ?_
            rintro _ _ _ ⟨v89, rfl, hv89, rfl, rfl⟩
            refine r_icmp_le (pc := 92) f_140_92 (by omega) (by omega) (fun h92 => ?_) (fun h92 => ?_)
            · refine r_run 7 (pc' := 115) (ls' := [some (yr 75), some (yi s), some (yi (M 76 (5 * s))), some (yi (M 76 ((5 * s) + 2))), some (yi (M 76 ((5 * s) + 4))), some (yi ((M 76 ((5 * s) + 2)) + (M 76 ((5 * s) + 4))))]) (st' := [yi 999, yi 0, yi ((M 76 ((5 * s) + 2)) + (M 76 ((5 * s) + 4)))]) (M' := M) (N' := N) rfl ?_
              refine r_static (mj := 113) (as := [yi ((M 76 ((5 * s) + 2)) + (M 76 ((5 * s) + 4))), yi 0, yi 999]) (rest := []) f_140_115 (by decide) rfl m_113 rfl rfl rfl (Nat.le_of_ble_eq_true rfl) (by omega) (m_within (by omega) (by omega) (by omega)) ?_
              rintro _ _ _ ⟨v115, rfl, hv115, rfl, rfl⟩
              refine r_iret m_140 rfl f_140_118 ?_
              exact ⟨_, rfl, by unfold sFrom; (repeat' split) <;> omega, rfl, rfl⟩
            · refine r_run 2 (pc' := 97) (ls' := [some (yr 75), some (yi s), some (yi (M 76 (5 * s))), some (yi (M 76 ((5 * s) + 2))), some (yi (M 76 ((5 * s) + 4))), some (yi (M 76 ((5 * s) + 2)))]) (st' := [yi s, yr 75]) (M' := M) (N' := N) rfl ?_
              refine r_virtual (mj := 138) (b := 75) (as := [yi s]) (rest := []) f_140_97 (by decide) rfl m_138 (by decide) (by decide) (by decide) rfl rfl (Nat.le_of_ble_eq_true rfl) (by omega) (m_middle hs0 hs) ?_
              rintro _ _ _ ⟨v97, rfl, hv97, rfl, rfl⟩
              refine r_run 5 (pc' := 115) (ls' := [some (yr 75), some (yi s), some (yi (M 76 (5 * s))), some (yi (M 76 ((5 * s) + 2))), some (yi (M 76 ((5 * s) + 4))), some (yi v97)]) (st' := [yi 999, yi 0, yi v97]) (M' := M) (N' := N) rfl ?_
              refine r_static (mj := 113) (as := [yi v97, yi 0, yi 999]) (rest := []) f_140_115 (by decide) rfl m_113 rfl rfl rfl (Nat.le_of_ble_eq_true rfl) (by omega) (m_within (by omega) (by omega) (by omega)) ?_
              rintro _ _ _ ⟨v115, rfl, hv115, rfl, rfl⟩
              refine r_iret m_140 rfl f_140_118 ?_
              exact ⟨_, rfl, by unfold sFrom; (repeat' split) <;> omega, rfl, rfl⟩
    · refine r_run 5 (pc' := 51) (ls' := [some (yr 75), some (yi s), some (yi (M 76 (5 * s))), some (yi (M 76 ((5 * s) + 2))), some (yi (M 76 ((5 * s) + 4))), some (yi (M 76 ((5 * s) + 2)))]) (st' := [yi 3, yi (M 76 (5 * s)), yi ((M 76 ((5 * s) + 2)) - (M 76 ((5 * s) + 4)))]) (M' := M) (N' := N) rfl ?_
      refine r_icmp_ne (pc := 51) f_140_51 (by omega) (by omega) (fun h51 => ?_) (fun h51 => ?_)
      · refine r_run 5 (pc' := 67) (ls' := [some (yr 75), some (yi s), some (yi (M 76 (5 * s))), some (yi (M 76 ((5 * s) + 2))), some (yi (M 76 ((5 * s) + 4))), some (yi (((M 76 ((5 * s) + 2)) - (M 76 ((5 * s) + 4))) - 0))]) (st' := [yi 2, yi (M 76 (5 * s))]) (M' := M) (N' := N) rfl ?_
        refine r_icmp_eq (pc := 67) f_140_67 (by omega) (by omega) (fun h67 => ?_) (fun h67 => ?_)
        · refine r_run 2 (pc' := 77) (ls' := [some (yr 75), some (yi s), some (yi (M 76 (5 * s))), some (yi (M 76 ((5 * s) + 2))), some (yi (M 76 ((5 * s) + 4))), some (yi (((M 76 ((5 * s) + 2)) - (M 76 ((5 * s) + 4))) - 0))]) (st' := [yi s, yr 75]) (M' := M) (N' := N) rfl ?_
          refine r_virtual (mj := 139) (b := 75) (as := [yi s]) (rest := []) f_140_77 (by decide) rfl m_139 (by decide) (by decide) (by decide) rfl rfl (Nat.le_of_ble_eq_true rfl) (by omega) (m_isExact hs0 hs hy) ?_
          rintro _ _ _ ⟨v77, rfl, hv77, rfl, rfl⟩
          refine r_if_ne (pc := 80) f_140_80 (by omega) (fun h80 => ?_) (fun h80 => ?_)
          · refine r_run 2 (pc' := 97) (ls' := [some (yr 75), some (yi s), some (yi (M 76 (5 * s))), some (yi (M 76 ((5 * s) + 2))), some (yi (M 76 ((5 * s) + 4))), some (yi (((M 76 ((5 * s) + 2)) - (M 76 ((5 * s) + 4))) - 0))]) (st' := [yi s, yr 75]) (M' := M) (N' := N) rfl ?_
            refine r_virtual (mj := 138) (b := 75) (as := [yi s]) (rest := []) f_140_97 (by decide) rfl m_138 (by decide) (by decide) (by decide) rfl rfl (Nat.le_of_ble_eq_true rfl) (by omega) (m_middle hs0 hs) ?_
            rintro _ _ _ ⟨v97, rfl, hv97, rfl, rfl⟩
            refine r_run 5 (pc' := 115) (ls' := [some (yr 75), some (yi s), some (yi (M 76 (5 * s))), some (yi (M 76 ((5 * s) + 2))), some (yi (M 76 ((5 * s) + 4))), some (yi v97)]) (st' := [yi 999, yi 0, yi v97]) (M' := M) (N' := N) rfl ?_
            refine r_static (mj := 113) (as := [yi v97, yi 0, yi 999]) (rest := []) f_140_115 (by decide) rfl m_113 rfl rfl rfl (Nat.le_of_ble_eq_true rfl) (by omega) (m_within (by omega) (by omega) (by omega)) ?_
            rintro _ _ _ ⟨v115, rfl, hv115, rfl, rfl⟩
            refine r_iret m_140 rfl f_140_118 ?_
            exact ⟨_, rfl, by unfold sFrom; (repeat' split) <;> omega, rfl, rfl⟩
          · refine r_run 5 (pc' := 89) (ls' := [some (yr 75), some (yi s), some (yi (M 76 (5 * s))), some (yi (M 76 ((5 * s) + 2))), some (yi (M 76 ((5 * s) + 4))), some (yi (((M 76 ((5 * s) + 2)) - (M 76 ((5 * s) + 4))) - 0))]) (st' := [yi s, yr 75, yi ((M 76 ((5 * s) + 2)) + (M 76 ((5 * s) + 4)))]) (M' := M) (N' := N) rfl ?_
            refine r_virtual (mj := 138) (b := 75) (as := [yi s]) (rest := [yi ((M 76 ((5 * s) + 2)) + (M 76 ((5 * s) + 4)))]) f_140_89 (by decide) rfl m_138 (by decide) (by decide) (by decide) rfl rfl (Nat.le_of_ble_eq_true rfl) (by omega) (m_middle hs0 hs) ?_
            rintro _ _ _ ⟨v89, rfl, hv89, rfl, rfl⟩
            refine r_icmp_le (pc := 92) f_140_92 (by omega) (by omega) (fun h92 => ?_) (fun h92 => ?_)
            · refine r_run 7 (pc' := 115) (ls' := [some (yr 75), some (yi s), some (yi (M 76 (5 * s))), some (yi (M 76 ((5 * s) + 2))), some (yi (M 76 ((5 * s) + 4))), some (yi ((M 76 ((5 * s) + 2)) + (M 76 ((5 * s) + 4))))]) (st' := [yi 999, yi 0, yi ((M 76 ((5 * s) + 2)) + (M 76 ((5 * s) + 4)))]) (M' := M) (N' := N) rfl ?_
              refine r_static (mj := 113) (as := [yi ((M 76 ((5 * s) + 2)) + (M 76 ((5 * s) + 4))), yi 0, yi 999]) (rest := []) f_140_115 (by decide) rfl m_113 rfl rfl rfl (Nat.le_of_ble_eq_true rfl) (by omega) (m_within (by omega) (by omega) (by omega)) ?_
              rintro _ _ _ ⟨v115, rfl, hv115, rfl, rfl⟩
              refine r_iret m_140 rfl f_140_118 ?_
              exact ⟨_, rfl, by unfold sFrom; (repeat' split) <;> omega, rfl, rfl⟩
            · refine r_run 2 (pc' := 97) (ls' := [some (yr 75), some (yi s), some (yi (M 76 (5 * s))), some (yi (M 76 ((5 * s) + 2))), some (yi (M 76 ((5 * s) + 4))), some (yi (((M 76 ((5 * s) + 2)) - (M 76 ((5 * s) + 4))) - 0))]) (st' := [yi s, yr 75]) (M' := M) (N' := N) rfl ?_
              refine r_virtual (mj := 138) (b := 75) (as := [yi s]) (rest := []) f_140_97 (by decide) rfl m_138 (by decide) (by decide) (by decide) rfl rfl (Nat.le_of_ble_eq_true rfl) (by omega) (m_middle hs0 hs) ?_
              rintro _ _ _ ⟨v97, rfl, hv97, rfl, rfl⟩
              refine r_run 5 (pc' := 115) (ls' := [some (yr 75), some (yi s), some (yi (M 76 (5 * s))), some (yi (M 76 ((5 * s) + 2))), some (yi (M 76 ((5 * s) + 4))), some (yi v97)]) (st' := [yi 999, yi 0, yi v97]) (M' := M) (N' := N) rfl ?_
              refine r_static (mj := 113) (as := [yi v97, yi 0, yi 999]) (rest := []) f_140_115 (by decide) rfl m_113 rfl rfl rfl (Nat.le_of_ble_eq_true rfl) (by omega) (m_within (by omega) (by omega) (by omega)) ?_
              rintro _ _ _ ⟨v115, rfl, hv115, rfl, rfl⟩
              refine r_iret m_140 rfl f_140_118 ?_
              exact ⟨_, rfl, by unfold sFrom; (repeat' split) <;> omega, rfl, rfl⟩
        · refine r_run 2 (pc' := 72) (ls' := [some (yr 75), some (yi s), some (yi (M 76 (5 * s))), some (yi (M 76 ((5 * s) + 2))), some (yi (M 76 ((5 * s) + 4))), some (yi (((M 76 ((5 * s) + 2)) - (M 76 ((5 * s) + 4))) - 0))]) (st' := [yi 4, yi (M 76 (5 * s))]) (M' := M) (N' := N) rfl ?_
          refine r_icmp_ne (pc := 72) f_140_72 (by omega) (by omega) (fun h72 => ?_) (fun h72 => ?_)
          · refine r_run 3 (pc' := 115) (ls' := [some (yr 75), some (yi s), some (yi (M 76 (5 * s))), some (yi (M 76 ((5 * s) + 2))), some (yi (M 76 ((5 * s) + 4))), some (yi (((M 76 ((5 * s) + 2)) - (M 76 ((5 * s) + 4))) - 0))]) (st' := [yi 999, yi 0, yi (((M 76 ((5 * s) + 2)) - (M 76 ((5 * s) + 4))) - 0)]) (M' := M) (N' := N) rfl ?_
            refine r_static (mj := 113) (as := [yi (((M 76 ((5 * s) + 2)) - (M 76 ((5 * s) + 4))) - 0), yi 0, yi 999]) (rest := []) f_140_115 (by decide) rfl m_113 rfl rfl rfl (Nat.le_of_ble_eq_true rfl) (by omega) (m_within (by omega) (by omega) (by omega)) ?_
            rintro _ _ _ ⟨v115, rfl, hv115, rfl, rfl⟩
            refine r_iret m_140 rfl f_140_118 ?_
            exact ⟨_, rfl, by unfold sFrom; (repeat' split) <;> omega, rfl, rfl⟩
          · refine r_run 2 (pc' := 77) (ls' := [some (yr 75), some (yi s), some (yi (M 76 (5 * s))), some (yi (M 76 ((5 * s) + 2))), some (yi (M 76 ((5 * s) + 4))), some (yi (((M 76 ((5 * s) + 2)) - (M 76 ((5 * s) + 4))) - 0))]) (st' := [yi s, yr 75]) (M' := M) (N' := N) rfl ?_
            refine r_virtual (mj := 139) (b := 75) (as := [yi s]) (rest := []) f_140_77 (by decide) rfl m_139 (by decide) (by decide) (by decide) rfl rfl (Nat.le_of_ble_eq_true rfl) (by omega) (m_isExact hs0 hs hy) ?_
            rintro _ _ _ ⟨v77, rfl, hv77, rfl, rfl⟩
            refine r_if_ne (pc := 80) f_140_80 (by omega) (fun h80 => ?_) (fun h80 => ?_)
            · refine r_run 2 (pc' := 97) (ls' := [some (yr 75), some (yi s), some (yi (M 76 (5 * s))), some (yi (M 76 ((5 * s) + 2))), some (yi (M 76 ((5 * s) + 4))), some (yi (((M 76 ((5 * s) + 2)) - (M 76 ((5 * s) + 4))) - 0))]) (st' := [yi s, yr 75]) (M' := M) (N' := N) rfl ?_
              refine r_virtual (mj := 138) (b := 75) (as := [yi s]) (rest := []) f_140_97 (by decide) rfl m_138 (by decide) (by decide) (by decide) rfl rfl (Nat.le_of_ble_eq_true rfl) (by omega) (m_middle hs0 hs) ?_
              rintro _ _ _ ⟨v97, rfl, hv97, rfl, rfl⟩
              refine r_run 5 (pc' := 115) (ls' := [some (yr 75), some (yi s), some (yi (M 76 (5 * s))), some (yi (M 76 ((5 * s) + 2))), some (yi (M 76 ((5 * s) + 4))), some (yi v97)]) (st' := [yi 999, yi 0, yi v97]) (M' := M) (N' := N) rfl ?_
              refine r_static (mj := 113) (as := [yi v97, yi 0, yi 999]) (rest := []) f_140_115 (by decide) rfl m_113 rfl rfl rfl (Nat.le_of_ble_eq_true rfl) (by omega) (m_within (by omega) (by omega) (by omega)) ?_
              rintro _ _ _ ⟨v115, rfl, hv115, rfl, rfl⟩
              refine r_iret m_140 rfl f_140_118 ?_
              exact ⟨_, rfl, by unfold sFrom; (repeat' split) <;> omega, rfl, rfl⟩
            · refine r_run 5 (pc' := 89) (ls' := [some (yr 75), some (yi s), some (yi (M 76 (5 * s))), some (yi (M 76 ((5 * s) + 2))), some (yi (M 76 ((5 * s) + 4))), some (yi (((M 76 ((5 * s) + 2)) - (M 76 ((5 * s) + 4))) - 0))]) (st' := [yi s, yr 75, yi ((M 76 ((5 * s) + 2)) + (M 76 ((5 * s) + 4)))]) (M' := M) (N' := N) rfl ?_
              refine r_virtual (mj := 138) (b := 75) (as := [yi s]) (rest := [yi ((M 76 ((5 * s) + 2)) + (M 76 ((5 * s) + 4)))]) f_140_89 (by decide) rfl m_138 (by decide) (by decide) (by decide) rfl rfl (Nat.le_of_ble_eq_true rfl) (by omega) (m_middle hs0 hs) ?_
              rintro _ _ _ ⟨v89, rfl, hv89, rfl, rfl⟩
              refine r_icmp_le (pc := 92) f_140_92 (by omega) (by omega) (fun h92 => ?_) (fun h92 => ?_)
              · refine r_run 7 (pc' := 115) (ls' := [some (yr 75), some (yi s), some (yi (M 76 (5 * s))), some (yi (M 76 ((5 * s) + 2))), some (yi (M 76 ((5 * s) + 4))), some (yi ((M 76 ((5 * s) + 2)) + (M 76 ((5 * s) + 4))))]) (st' := [yi 999, yi 0, yi ((M 76 ((5 * s) + 2)) + (M 76 ((5 * s) + 4)))]) (M' := M) (N' := N) rfl ?_
                refine r_static (mj := 113) (as := [yi ((M 76 ((5 * s) + 2)) + (M 76 ((5 * s) + 4))), yi 0, yi 999]) (rest := []) f_140_115 (by decide) rfl m_113 rfl rfl rfl (Nat.le_of_ble_eq_true rfl) (by omega) (m_within (by omega) (by omega) (by omega)) ?_
                rintro _ _ _ ⟨v115, rfl, hv115, rfl, rfl⟩
                refine r_iret m_140 rfl f_140_118 ?_
                exact ⟨_, rfl, by unfold sFrom; (repeat' split) <;> omega, rfl, rfl⟩
              · refine r_run 2 (pc' := 97) (ls' := [some (yr 75), some (yi s), some (yi (M 76 (5 * s))), some (yi (M 76 ((5 * s) + 2))), some (yi (M 76 ((5 * s) + 4))), some (yi (((M 76 ((5 * s) + 2)) - (M 76 ((5 * s) + 4))) - 0))]) (st' := [yi s, yr 75]) (M' := M) (N' := N) rfl ?_
                refine r_virtual (mj := 138) (b := 75) (as := [yi s]) (rest := []) f_140_97 (by decide) rfl m_138 (by decide) (by decide) (by decide) rfl rfl (Nat.le_of_ble_eq_true rfl) (by omega) (m_middle hs0 hs) ?_
                rintro _ _ _ ⟨v97, rfl, hv97, rfl, rfl⟩
                refine r_run 5 (pc' := 115) (ls' := [some (yr 75), some (yi s), some (yi (M 76 (5 * s))), some (yi (M 76 ((5 * s) + 2))), some (yi (M 76 ((5 * s) + 4))), some (yi v97)]) (st' := [yi 999, yi 0, yi v97]) (M' := M) (N' := N) rfl ?_
                refine r_static (mj := 113) (as := [yi v97, yi 0, yi 999]) (rest := []) f_140_115 (by decide) rfl m_113 rfl rfl rfl (Nat.le_of_ble_eq_true rfl) (by omega) (m_within (by omega) (by omega) (by omega)) ?_
                rintro _ _ _ ⟨v115, rfl, hv115, rfl, rfl⟩
                refine r_iret m_140 rfl f_140_118 ?_
                exact ⟨_, rfl, by unfold sFrom; (repeat' split) <;> omega, rfl, rfl⟩
      · refine r_run 7 (pc' := 67) (ls' := [some (yr 75), some (yi s), some (yi (M 76 (5 * s))), some (yi (M 76 ((5 * s) + 2))), some (yi (M 76 ((5 * s) + 4))), some (yi (((M 76 ((5 * s) + 2)) - (M 76 ((5 * s) + 4))) - (M 75 4)))]) (st' := [yi 2, yi (M 76 (5 * s))]) (M' := M) (N' := N) rfl ?_
        refine r_icmp_eq (pc := 67) f_140_67 (by omega) (by omega) (fun h67 => ?_) (fun h67 => ?_)
        · refine r_run 2 (pc' := 77) (ls' := [some (yr 75), some (yi s), some (yi (M 76 (5 * s))), some (yi (M 76 ((5 * s) + 2))), some (yi (M 76 ((5 * s) + 4))), some (yi (((M 76 ((5 * s) + 2)) - (M 76 ((5 * s) + 4))) - (M 75 4)))]) (st' := [yi s, yr 75]) (M' := M) (N' := N) rfl ?_
          refine r_virtual (mj := 139) (b := 75) (as := [yi s]) (rest := []) f_140_77 (by decide) rfl m_139 (by decide) (by decide) (by decide) rfl rfl (Nat.le_of_ble_eq_true rfl) (by omega) (m_isExact hs0 hs hy) ?_
          rintro _ _ _ ⟨v77, rfl, hv77, rfl, rfl⟩
          refine r_if_ne (pc := 80) f_140_80 (by omega) (fun h80 => ?_) (fun h80 => ?_)
          · refine r_run 2 (pc' := 97) (ls' := [some (yr 75), some (yi s), some (yi (M 76 (5 * s))), some (yi (M 76 ((5 * s) + 2))), some (yi (M 76 ((5 * s) + 4))), some (yi (((M 76 ((5 * s) + 2)) - (M 76 ((5 * s) + 4))) - (M 75 4)))]) (st' := [yi s, yr 75]) (M' := M) (N' := N) rfl ?_
            refine r_virtual (mj := 138) (b := 75) (as := [yi s]) (rest := []) f_140_97 (by decide) rfl m_138 (by decide) (by decide) (by decide) rfl rfl (Nat.le_of_ble_eq_true rfl) (by omega) (m_middle hs0 hs) ?_
            rintro _ _ _ ⟨v97, rfl, hv97, rfl, rfl⟩
            refine r_run 5 (pc' := 115) (ls' := [some (yr 75), some (yi s), some (yi (M 76 (5 * s))), some (yi (M 76 ((5 * s) + 2))), some (yi (M 76 ((5 * s) + 4))), some (yi v97)]) (st' := [yi 999, yi 0, yi v97]) (M' := M) (N' := N) rfl ?_
            refine r_static (mj := 113) (as := [yi v97, yi 0, yi 999]) (rest := []) f_140_115 (by decide) rfl m_113 rfl rfl rfl (Nat.le_of_ble_eq_true rfl) (by omega) (m_within (by omega) (by omega) (by omega)) ?_
            rintro _ _ _ ⟨v115, rfl, hv115, rfl, rfl⟩
            refine r_iret m_140 rfl f_140_118 ?_
            exact ⟨_, rfl, by unfold sFrom; (repeat' split) <;> omega, rfl, rfl⟩
          · refine r_run 5 (pc' := 89) (ls' := [some (yr 75), some (yi s), some (yi (M 76 (5 * s))), some (yi (M 76 ((5 * s) + 2))), some (yi (M 76 ((5 * s) + 4))), some (yi (((M 76 ((5 * s) + 2)) - (M 76 ((5 * s) + 4))) - (M 75 4)))]) (st' := [yi s, yr 75, yi ((M 76 ((5 * s) + 2)) + (M 76 ((5 * s) + 4)))]) (M' := M) (N' := N) rfl ?_
            refine r_virtual (mj := 138) (b := 75) (as := [yi s]) (rest := [yi ((M 76 ((5 * s) + 2)) + (M 76 ((5 * s) + 4)))]) f_140_89 (by decide) rfl m_138 (by decide) (by decide) (by decide) rfl rfl (Nat.le_of_ble_eq_true rfl) (by omega) (m_middle hs0 hs) ?_
            rintro _ _ _ ⟨v89, rfl, hv89, rfl, rfl⟩
            refine r_icmp_le (pc := 92) f_140_92 (by omega) (by omega) (fun h92 => ?_) (fun h92 => ?_)
            · refine r_run 7 (pc' := 115) (ls' := [some (yr 75), some (yi s), some (yi (M 76 (5 * s))), some (yi (M 76 ((5 * s) + 2))), some (yi (M 76 ((5 * s) + 4))), some (yi ((M 76 ((5 * s) + 2)) + (M 76 ((5 * s) + 4))))]) (st' := [yi 999, yi 0, yi ((M 76 ((5 * s) + 2)) + (M 76 ((5 * s) + 4)))]) (M' := M) (N' := N) rfl ?_
              refine r_static (mj := 113) (as := [yi ((M 76 ((5 * s) + 2)) + (M 76 ((5 * s) + 4))), yi 0, yi 999]) (rest := []) f_140_115 (by decide) rfl m_113 rfl rfl rfl (Nat.le_of_ble_eq_true rfl) (by omega) (m_within (by omega) (by omega) (by omega)) ?_
              rintro _ _ _ ⟨v115, rfl, hv115, rfl, rfl⟩
              refine r_iret m_140 rfl f_140_118 ?_
              exact ⟨_, rfl, by unfold sFrom; (repeat' split) <;> omega, rfl, rfl⟩
            · refine r_run 2 (pc' := 97) (ls' := [some (yr 75), some (yi s), some (yi (M 76 (5 * s))), some (yi (M 76 ((5 * s) + 2))), some (yi (M 76 ((5 * s) + 4))), some (yi (((M 76 ((5 * s) + 2)) - (M 76 ((5 * s) + 4))) - (M 75 4)))]) (st' := [yi s, yr 75]) (M' := M) (N' := N) rfl ?_
              refine r_virtual (mj := 138) (b := 75) (as := [yi s]) (rest := []) f_140_97 (by decide) rfl m_138 (by decide) (by decide) (by decide) rfl rfl (Nat.le_of_ble_eq_true rfl) (by omega) (m_middle hs0 hs) ?_
              rintro _ _ _ ⟨v97, rfl, hv97, rfl, rfl⟩
              refine r_run 5 (pc' := 115) (ls' := [some (yr 75), some (yi s), some (yi (M 76 (5 * s))), some (yi (M 76 ((5 * s) + 2))), some (yi (M 76 ((5 * s) + 4))), some (yi v97)]) (st' := [yi 999, yi 0, yi v97]) (M' := M) (N' := N) rfl ?_
              refine r_static (mj := 113) (as := [yi v97, yi 0, yi 999]) (rest := []) f_140_115 (by decide) rfl m_113 rfl rfl rfl (Nat.le_of_ble_eq_true rfl) (by omega) (m_within (by omega) (by omega) (by omega)) ?_
              rintro _ _ _ ⟨v115, rfl, hv115, rfl, rfl⟩
              refine r_iret m_140 rfl f_140_118 ?_
              exact ⟨_, rfl, by unfold sFrom; (repeat' split) <;> omega, rfl, rfl⟩
        · refine r_run 2 (pc' := 72) (ls' := [some (yr 75), some (yi s), some (yi (M 76 (5 * s))), some (yi (M 76 ((5 * s) + 2))), some (yi (M 76 ((5 * s) + 4))), some (yi (((M 76 ((5 * s) + 2)) - (M 76 ((5 * s) + 4))) - (M 75 4)))]) (st' := [yi 4, yi (M 76 (5 * s))]) (M' := M) (N' := N) rfl ?_
          refine r_icmp_ne (pc := 72) f_140_72 (by omega) (by omega) (fun h72 => ?_) (fun h72 => ?_)
          · refine r_run 3 (pc' := 115) (ls' := [some (yr 75), some (yi s), some (yi (M 76 (5 * s))), some (yi (M 76 ((5 * s) + 2))), some (yi (M 76 ((5 * s) + 4))), some (yi (((M 76 ((5 * s) + 2)) - (M 76 ((5 * s) + 4))) - (M 75 4)))]) (st' := [yi 999, yi 0, yi (((M 76 ((5 * s) + 2)) - (M 76 ((5 * s) + 4))) - (M 75 4))]) (M' := M) (N' := N) rfl ?_
            refine r_static (mj := 113) (as := [yi (((M 76 ((5 * s) + 2)) - (M 76 ((5 * s) + 4))) - (M 75 4)), yi 0, yi 999]) (rest := []) f_140_115 (by decide) rfl m_113 rfl rfl rfl (Nat.le_of_ble_eq_true rfl) (by omega) (m_within (by omega) (by omega) (by omega)) ?_
            rintro _ _ _ ⟨v115, rfl, hv115, rfl, rfl⟩
            refine r_iret m_140 rfl f_140_118 ?_
            exact ⟨_, rfl, by unfold sFrom; (repeat' split) <;> omega, rfl, rfl⟩
          · refine r_run 2 (pc' := 77) (ls' := [some (yr 75), some (yi s), some (yi (M 76 (5 * s))), some (yi (M 76 ((5 * s) + 2))), some (yi (M 76 ((5 * s) + 4))), some (yi (((M 76 ((5 * s) + 2)) - (M 76 ((5 * s) + 4))) - (M 75 4)))]) (st' := [yi s, yr 75]) (M' := M) (N' := N) rfl ?_
            refine r_virtual (mj := 139) (b := 75) (as := [yi s]) (rest := []) f_140_77 (by decide) rfl m_139 (by decide) (by decide) (by decide) rfl rfl (Nat.le_of_ble_eq_true rfl) (by omega) (m_isExact hs0 hs hy) ?_
            rintro _ _ _ ⟨v77, rfl, hv77, rfl, rfl⟩
            refine r_if_ne (pc := 80) f_140_80 (by omega) (fun h80 => ?_) (fun h80 => ?_)
            · refine r_run 2 (pc' := 97) (ls' := [some (yr 75), some (yi s), some (yi (M 76 (5 * s))), some (yi (M 76 ((5 * s) + 2))), some (yi (M 76 ((5 * s) + 4))), some (yi (((M 76 ((5 * s) + 2)) - (M 76 ((5 * s) + 4))) - (M 75 4)))]) (st' := [yi s, yr 75]) (M' := M) (N' := N) rfl ?_
              refine r_virtual (mj := 138) (b := 75) (as := [yi s]) (rest := []) f_140_97 (by decide) rfl m_138 (by decide) (by decide) (by decide) rfl rfl (Nat.le_of_ble_eq_true rfl) (by omega) (m_middle hs0 hs) ?_
              rintro _ _ _ ⟨v97, rfl, hv97, rfl, rfl⟩
              refine r_run 5 (pc' := 115) (ls' := [some (yr 75), some (yi s), some (yi (M 76 (5 * s))), some (yi (M 76 ((5 * s) + 2))), some (yi (M 76 ((5 * s) + 4))), some (yi v97)]) (st' := [yi 999, yi 0, yi v97]) (M' := M) (N' := N) rfl ?_
              refine r_static (mj := 113) (as := [yi v97, yi 0, yi 999]) (rest := []) f_140_115 (by decide) rfl m_113 rfl rfl rfl (Nat.le_of_ble_eq_true rfl) (by omega) (m_within (by omega) (by omega) (by omega)) ?_
              rintro _ _ _ ⟨v115, rfl, hv115, rfl, rfl⟩
              refine r_iret m_140 rfl f_140_118 ?_
              exact ⟨_, rfl, by unfold sFrom; (repeat' split) <;> omega, rfl, rfl⟩
            · refine r_run 5 (pc' := 89) (ls' := [some (yr 75), some (yi s), some (yi (M 76 (5 * s))), some (yi (M 76 ((5 * s) + 2))), some (yi (M 76 ((5 * s) + 4))), some (yi (((M 76 ((5 * s) + 2)) - (M 76 ((5 * s) + 4))) - (M 75 4)))]) (st' := [yi s, yr 75, yi ((M 76 ((5 * s) + 2)) + (M 76 ((5 * s) + 4)))]) (M' := M) (N' := N) rfl ?_
              refine r_virtual (mj := 138) (b := 75) (as := [yi s]) (rest := [yi ((M 76 ((5 * s) + 2)) + (M 76 ((5 * s) + 4)))]) f_140_89 (by decide) rfl m_138 (by decide) (by decide) (by decide) rfl rfl (Nat.le_of_ble_eq_true rfl) (by omega) (m_middle hs0 hs) ?_
              rintro _ _ _ ⟨v89, rfl, hv89, rfl, rfl⟩
              refine r_icmp_le (pc := 92) f_140_92 (by omega) (by omega) (fun h92 => ?_) (fun h92 => ?_)
              · refine r_run 7 (pc' := 115) (ls' := [some (yr 75), some (yi s), some (yi (M 76 (5 * s))), some (yi (M 76 ((5 * s) + 2))), some (yi (M 76 ((5 * s) + 4))), some (yi ((M 76 ((5 * s) + 2)) + (M 76 ((5 * s) + 4))))]) (st' := [yi 999, yi 0, yi ((M 76 ((5 * s) + 2)) + (M 76 ((5 * s) + 4)))]) (M' := M) (N' := N) rfl ?_
                refine r_static (mj := 113) (as := [yi ((M 76 ((5 * s) + 2)) + (M 76 ((5 * s) + 4))), yi 0, yi 999]) (rest := []) f_140_115 (by decide) rfl m_113 rfl rfl rfl (Nat.le_of_ble_eq_true rfl) (by omega) (m_within (by omega) (by omega) (by omega)) ?_
                rintro _ _ _ ⟨v115, rfl, hv115, rfl, rfl⟩
                refine r_iret m_140 rfl f_140_118 ?_
                exact ⟨_, rfl, by unfold sFrom; (repeat' split) <;> omega, rfl, rfl⟩
              · refine r_run 2 (pc' := 97) (ls' := [some (yr 75), some (yi s), some (yi (M 76 (5 * s))), some (yi (M 76 ((5 * s) + 2))), some (yi (M 76 ((5 * s) + 4))), some (yi (((M 76 ((5 * s) + 2)) - (M 76 ((5 * s) + 4))) - (M 75 4)))]) (st' := [yi s, yr 75]) (M' := M) (N' := N) rfl ?_
                refine r_virtual (mj := 138) (b := 75) (as := [yi s]) (rest := []) f_140_97 (by decide) rfl m_138 (by decide) (by decide) (by decide) rfl rfl (Nat.le_of_ble_eq_true rfl) (by omega) (m_middle hs0 hs) ?_
                rintro _ _ _ ⟨v97, rfl, hv97, rfl, rfl⟩
                refine r_run 5 (pc' := 115) (ls' := [some (yr 75), some (yi s), some (yi (M 76 (5 * s))), some (yi (M 76 ((5 * s) + 2))), some (yi (M 76 ((5 * s) + 4))), some (yi v97)]) (st' := [yi 999, yi 0, yi v97]) (M' := M) (N' := N) rfl ?_
                refine r_static (mj := 113) (as := [yi v97, yi 0, yi 999]) (rest := []) f_140_115 (by decide) rfl m_113 rfl rfl rfl (Nat.le_of_ble_eq_true rfl) (by omega) (m_within (by omega) (by omega) (by omega)) ?_
                rintro _ _ _ ⟨v115, rfl, hv115, rfl, rfl⟩
                refine r_iret m_140 rfl f_140_118 ?_
                exact ⟨_, rfl, by unfold sFrom; (repeat' split) <;> omega, rfl, rfl⟩
theorem m_upTo {S : XS} {M N : YM} {s : Int} (hs0 : 0 ≤ s ∧ s < 10) (hs : sOk (M 76 (5 * s)) (M 76 (5 * s + 4)) (M 76 (5 * s + 2)) (M 76 (5 * s + 3))) (hy : 0 ≤ M 75 4 ∧ M 75 4 ≤ 99)  : rm S 1 141 [yr 75, yi s] M N (fun r M' N' => ∃ v : Int, some (yi v) = r ∧ (v = sUpTo (M 76 (5 * s)) (M 76 (5 * s + 4)) (M 76 (5 * s + 2)) (M 76 (5 * s + 3)) (M 75 4)) ∧ M = M' ∧ N = N') := by
  refine ⟨xe_141, m_141, Nat.le_of_ble_eq_true rfl, ?_⟩
  refine r_run 5 (pc' := 7) (ls' := [some (yr 75), some (yi s), none, none, none, none]) (st' := [yi (5 * s), yr 76]) (M' := M) (N' := N) rfl ?_
  refine r_iald (n := 50) f_141_7 (by decide) (by decide) (by decide) (by omega) ?_
  refine r_run 8 (pc' := 18) (ls' := [some (yr 75), some (yi s), some (yi (M 76 (5 * s))), none, none, none]) (st' := [yi ((5 * s) + 3), yr 76]) (M' := M) (N' := N) rfl ?_
  refine r_iald (n := 50) f_141_18 (by decide) (by decide) (by decide) (by omega) ?_
  refine r_run 8 (pc' := 29) (ls' := [some (yr 75), some (yi s), some (yi (M 76 (5 * s))), some (yi (M 76 ((5 * s) + 3))), none, none]) (st' := [yi ((5 * s) + 4), yr 76]) (M' := M) (N' := N) rfl ?_
  refine r_iald (n := 50) f_141_29 (by decide) (by decide) (by decide) (by omega) ?_
  refine r_run 3 (pc' := 34) (ls' := [some (yr 75), some (yi s), some (yi (M 76 (5 * s))), some (yi (M 76 ((5 * s) + 3))), some (yi (M 76 ((5 * s) + 4))), none]) (st' := [yi 5, yi (M 76 (5 * s))]) (M' := M) (N' := N) rfl ?_
  refine r_icmp_ne (pc := 34) f_141_34 (by omega) (by omega) (fun h34 => ?_) (fun h34 => ?_)
  · refine r_run 4 (pc' := 48) (ls' := [some (yr 75), some (yi s), some (yi (M 76 (5 * s))), some (yi (M 76 ((5 * s) + 3))), some (yi (M 76 ((5 * s) + 4))), some (yi (M 76 ((5 * s) + 3)))]) (st' := [yi 1, yi (M 76 (5 * s))]) (M' := M) (N' := N) rfl ?_
    refine r_icmp_eq (pc := 48) f_141_48 (by omega) (by omega) (fun h48 => ?_) (fun h48 => ?_)
    · refine r_run 5 (pc' := 62) (ls' := [some (yr 75), some (yi s), some (yi (M 76 (5 * s))), some (yi (M 76 ((5 * s) + 3))), some (yi (M 76 ((5 * s) + 4))), some (yi (M 76 ((5 * s) + 3)))]) (st' := [yi 3, yi (M 76 (5 * s)), yi ((M 76 ((5 * s) + 3)) + (M 76 ((5 * s) + 4)))]) (M' := M) (N' := N) rfl ?_
      refine r_icmp_ne (pc := 62) f_141_62 (by omega) (by omega) (fun h62 => ?_) (fun h62 => ?_)
      · refine r_run 5 (pc' := 78) (ls' := [some (yr 75), some (yi s), some (yi (M 76 (5 * s))), some (yi (M 76 ((5 * s) + 3))), some (yi (M 76 ((5 * s) + 4))), some (yi (((M 76 ((5 * s) + 3)) + (M 76 ((5 * s) + 4))) + 0))]) (st' := [yi 2, yi (M 76 (5 * s))]) (M' := M) (N' := N) rfl ?_
        refine r_icmp_eq (pc := 78) f_141_78 (by omega) (by omega) (fun h78 => ?_) (fun h78 => ?_)
        · refine r_run 2 (pc' := 88) (ls' := [some (yr 75), some (yi s), some (yi (M 76 (5 * s))), some (yi (M 76 ((5 * s) + 3))), some (yi (M 76 ((5 * s) + 4))), some (yi (((M 76 ((5 * s) + 3)) + (M 76 ((5 * s) + 4))) + 0))]) (st' := [yi s, yr 75]) (M' := M) (N' := N) rfl ?_
          refine r_virtual (mj := 139) (b := 75) (as := [yi s]) (rest := []) f_141_88 (by decide) rfl m_139 (by decide) (by decide) (by decide) rfl rfl (Nat.le_of_ble_eq_true rfl) (by omega) (m_isExact hs0 hs hy) ?_
          rintro _ _ _ ⟨v88, rfl, hv88, rfl, rfl⟩
          refine r_if_ne (pc := 91) f_141_91 (by omega) (fun h91 => ?_) (fun h91 => ?_)
          · refine r_run 2 (pc' := 108) (ls' := [some (yr 75), some (yi s), some (yi (M 76 (5 * s))), some (yi (M 76 ((5 * s) + 3))), some (yi (M 76 ((5 * s) + 4))), some (yi (((M 76 ((5 * s) + 3)) + (M 76 ((5 * s) + 4))) + 0))]) (st' := [yi s, yr 75]) (M' := M) (N' := N) rfl ?_
            refine r_virtual (mj := 138) (b := 75) (as := [yi s]) (rest := []) f_141_108 (by decide) rfl m_138 (by decide) (by decide) (by decide) rfl rfl (Nat.le_of_ble_eq_true rfl) (by omega) (m_middle hs0 hs) ?_
            rintro _ _ _ ⟨v108, rfl, hv108, rfl, rfl⟩
            refine r_run 5 (pc' := 126) (ls' := [some (yr 75), some (yi s), some (yi (M 76 (5 * s))), some (yi (M 76 ((5 * s) + 3))), some (yi (M 76 ((5 * s) + 4))), some (yi v108)]) (st' := [yi 999, yi 0, yi v108]) (M' := M) (N' := N) rfl ?_
            refine r_static (mj := 113) (as := [yi v108, yi 0, yi 999]) (rest := []) f_141_126 (by decide) rfl m_113 rfl rfl rfl (Nat.le_of_ble_eq_true rfl) (by omega) (m_within (by omega) (by omega) (by omega)) ?_
            rintro _ _ _ ⟨v126, rfl, hv126, rfl, rfl⟩
            refine r_iret m_141 rfl f_141_129 ?_
            exact ⟨_, rfl, by unfold sUpTo; (repeat' split) <;> omega, rfl, rfl⟩
          · refine r_run 5 (pc' := 100) (ls' := [some (yr 75), some (yi s), some (yi (M 76 (5 * s))), some (yi (M 76 ((5 * s) + 3))), some (yi (M 76 ((5 * s) + 4))), some (yi (((M 76 ((5 * s) + 3)) + (M 76 ((5 * s) + 4))) + 0))]) (st' := [yi s, yr 75, yi ((M 76 ((5 * s) + 3)) - (M 76 ((5 * s) + 4)))]) (M' := M) (N' := N) rfl ?_
            refine r_virtual (mj := 138) (b := 75) (as := [yi s]) (rest := [yi ((M 76 ((5 * s) + 3)) - (M 76 ((5 * s) + 4)))]) f_141_100 (by decide) rfl m_138 (by decide) (by decide) (by decide) rfl rfl (Nat.le_of_ble_eq_true rfl) (by omega) (m_middle hs0 hs) ?_
            rintro _ _ _ ⟨v100, rfl, hv100, rfl, rfl⟩
            refine r_icmp_ge (pc := 103) f_141_103 (by omega) (by omega) (fun h103 => ?_) (fun h103 => ?_)
            · refine r_run 7 (pc' := 126) (ls' := [some (yr 75), some (yi s), some (yi (M 76 (5 * s))), some (yi (M 76 ((5 * s) + 3))), some (yi (M 76 ((5 * s) + 4))), some (yi ((M 76 ((5 * s) + 3)) - (M 76 ((5 * s) + 4))))]) (st' := [yi 999, yi 0, yi ((M 76 ((5 * s) + 3)) - (M 76 ((5 * s) + 4)))]) (M' := M) (N' := N) rfl ?_
              refine r_static (mj := 113) (as := [yi ((M 76 ((5 * s) + 3)) - (M 76 ((5 * s) + 4))), yi 0, yi 999]) (rest := []) f_141_126 (by decide) rfl m_113 rfl rfl rfl (Nat.le_of_ble_eq_true rfl) (by omega) (m_within (by omega) (by omega) (by omega)) ?_
              rintro _ _ _ ⟨v126, rfl, hv126, rfl, rfl⟩
              refine r_iret m_141 rfl f_141_129 ?_
              exact ⟨_, rfl, by unfold sUpTo; (repeat' split) <;> omega, rfl, rfl⟩
            · refine r_run 2 (pc' := 108) (ls' := [some (yr 75), some (yi s), some (yi (M 76 (5 * s))), some (yi (M 76 ((5 * s) + 3))), some (yi (M 76 ((5 * s) + 4))), some (yi (((M 76 ((5 * s) + 3)) + (M 76 ((5 * s) + 4))) + 0))]) (st' := [yi s, yr 75]) (M' := M) (N' := N) rfl ?_
              refine r_virtual (mj := 138) (b := 75) (as := [yi s]) (rest := []) f_141_108 (by decide) rfl m_138 (by decide) (by decide) (by decide) rfl rfl (Nat.le_of_ble_eq_true rfl) (by omega) (m_middle hs0 hs) ?_
              rintro _ _ _ ⟨v108, rfl, hv108, rfl, rfl⟩
              refine r_run 5 (pc' := 126) (ls' := [some (yr 75), some (yi s), some (yi (M 76 (5 * s))), some (yi (M 76 ((5 * s) + 3))), some (yi (M 76 ((5 * s) + 4))), some (yi v108)]) (st' := [yi 999, yi 0, yi v108]) (M' := M) (N' := N) rfl ?_
              refine r_static (mj := 113) (as := [yi v108, yi 0, yi 999]) (rest := []) f_141_126 (by decide) rfl m_113 rfl rfl rfl (Nat.le_of_ble_eq_true rfl) (by omega) (m_within (by omega) (by omega) (by omega)) ?_
              rintro _ _ _ ⟨v126, rfl, hv126, rfl, rfl⟩
              refine r_iret m_141 rfl f_141_129 ?_
              exact ⟨_, rfl, by unfold sUpTo; (repeat' split) <;> omega, rfl, rfl⟩
        · refine r_run 2 (pc' := 83) (ls' := [some (yr 75), some (yi s), some (yi (M 76 (5 * s))), some (yi (M 76 ((5 * s) + 3))), some (yi (M 76 ((5 * s) + 4))), some (yi (((M 76 ((5 * s) + 3)) + (M 76 ((5 * s) + 4))) + 0))]) (st' := [yi 4, yi (M 76 (5 * s))]) (M' := M) (N' := N) rfl ?_
          refine r_icmp_ne (pc := 83) f_141_83 (by omega) (by omega) (fun h83 => ?_) (fun h83 => ?_)
          · refine r_run 3 (pc' := 126) (ls' := [some (yr 75), some (yi s), some (yi (M 76 (5 * s))), some (yi (M 76 ((5 * s) + 3))), some (yi (M 76 ((5 * s) + 4))), some (yi (((M 76 ((5 * s) + 3)) + (M 76 ((5 * s) + 4))) + 0))]) (st' := [yi 999, yi 0, yi (((M 76 ((5 * s) + 3)) + (M 76 ((5 * s) + 4))) + 0)]) (M' := M) (N' := N) rfl ?_
            refine r_static (mj := 113) (as := [yi (((M 76 ((5 * s) + 3)) + (M 76 ((5 * s) + 4))) + 0), yi 0, yi 999]) (rest := []) f_141_126 (by decide) rfl m_113 rfl rfl rfl (Nat.le_of_ble_eq_true rfl) (by omega) (m_within (by omega) (by omega) (by omega)) ?_
            rintro _ _ _ ⟨v126, rfl, hv126, rfl, rfl⟩
            refine r_iret m_141 rfl f_141_129 ?_
            exact ⟨_, rfl, by unfold sUpTo; (repeat' split) <;> omega, rfl, rfl⟩
          · refine r_run 2 (pc' := 88) (ls' := [some (yr 75), some (yi s), some (yi (M 76 (5 * s))), some (yi (M 76 ((5 * s) + 3))), some (yi (M 76 ((5 * s) + 4))), some (yi (((M 76 ((5 * s) + 3)) + (M 76 ((5 * s) + 4))) + 0))]) (st' := [yi s, yr 75]) (M' := M) (N' := N) rfl ?_
            refine r_virtual (mj := 139) (b := 75) (as := [yi s]) (rest := []) f_141_88 (by decide) rfl m_139 (by decide) (by decide) (by decide) rfl rfl (Nat.le_of_ble_eq_true rfl) (by omega) (m_isExact hs0 hs hy) ?_
            rintro _ _ _ ⟨v88, rfl, hv88, rfl, rfl⟩
            refine r_if_ne (pc := 91) f_141_91 (by omega) (fun h91 => ?_) (fun h91 => ?_)
            · refine r_run 2 (pc' := 108) (ls' := [some (yr 75), some (yi s), some (yi (M 76 (5 * s))), some (yi (M 76 ((5 * s) + 3))), some (yi (M 76 ((5 * s) + 4))), some (yi (((M 76 ((5 * s) + 3)) + (M 76 ((5 * s) + 4))) + 0))]) (st' := [yi s, yr 75]) (M' := M) (N' := N) rfl ?_
              refine r_virtual (mj := 138) (b := 75) (as := [yi s]) (rest := []) f_141_108 (by decide) rfl m_138 (by decide) (by decide) (by decide) rfl rfl (Nat.le_of_ble_eq_true rfl) (by omega) (m_middle hs0 hs) ?_
              rintro _ _ _ ⟨v108, rfl, hv108, rfl, rfl⟩
              refine r_run 5 (pc' := 126) (ls' := [some (yr 75), some (yi s), some (yi (M 76 (5 * s))), some (yi (M 76 ((5 * s) + 3))), some (yi (M 76 ((5 * s) + 4))), some (yi v108)]) (st' := [yi 999, yi 0, yi v108]) (M' := M) (N' := N) rfl ?_
              refine r_static (mj := 113) (as := [yi v108, yi 0, yi 999]) (rest := []) f_141_126 (by decide) rfl m_113 rfl rfl rfl (Nat.le_of_ble_eq_true rfl) (by omega) (m_within (by omega) (by omega) (by omega)) ?_
              rintro _ _ _ ⟨v126, rfl, hv126, rfl, rfl⟩
              refine r_iret m_141 rfl f_141_129 ?_
              exact ⟨_, rfl, by unfold sUpTo; (repeat' split) <;> omega, rfl, rfl⟩
            · refine r_run 5 (pc' := 100) (ls' := [some (yr 75), some (yi s), some (yi (M 76 (5 * s))), some (yi (M 76 ((5 * s) + 3))), some (yi (M 76 ((5 * s) + 4))), some (yi (((M 76 ((5 * s) + 3)) + (M 76 ((5 * s) + 4))) + 0))]) (st' := [yi s, yr 75, yi ((M 76 ((5 * s) + 3)) - (M 76 ((5 * s) + 4)))]) (M' := M) (N' := N) rfl ?_
              refine r_virtual (mj := 138) (b := 75) (as := [yi s]) (rest := [yi ((M 76 ((5 * s) + 3)) - (M 76 ((5 * s) + 4)))]) f_141_100 (by decide) rfl m_138 (by decide) (by decide) (by decide) rfl rfl (Nat.le_of_ble_eq_true rfl) (by omega) (m_middle hs0 hs) ?_
              rintro _ _ _ ⟨v100, rfl, hv100, rfl, rfl⟩
              refine r_icmp_ge (pc := 103) f_141_103 (by omega) (by omega) (fun h103 => ?_) (fun h103 => ?_)
              · refine r_run 7 (pc' := 126) (ls' := [some (yr 75), some (yi s), some (yi (M 76 (5 * s))), some (yi (M 76 ((5 * s) + 3))), some (yi (M 76 ((5 * s) + 4))), some (yi ((M 76 ((5 * s) + 3)) - (M 76 ((5 * s) + 4))))]) (st' := [yi 999, yi 0, yi ((M 76 ((5 * s) + 3)) - (M 76 ((5 * s) + 4)))]) (M' := M) (N' := N) rfl ?_
                refine r_static (mj := 113) (as := [yi ((M 76 ((5 * s) + 3)) - (M 76 ((5 * s) + 4))), yi 0, yi 999]) (rest := []) f_141_126 (by decide) rfl m_113 rfl rfl rfl (Nat.le_of_ble_eq_true rfl) (by omega) (m_within (by omega) (by omega) (by omega)) ?_
                rintro _ _ _ ⟨v126, rfl, hv126, rfl, rfl⟩
                refine r_iret m_141 rfl f_141_129 ?_
                exact ⟨_, rfl, by unfold sUpTo; (repeat' split) <;> omega, rfl, rfl⟩
              · refine r_run 2 (pc' := 108) (ls' := [some (yr 75), some (yi s), some (yi (M 76 (5 * s))), some (yi (M 76 ((5 * s) + 3))), some (yi (M 76 ((5 * s) + 4))), some (yi (((M 76 ((5 * s) + 3)) + (M 76 ((5 * s) + 4))) + 0))]) (st' := [yi s, yr 75]) (M' := M) (N' := N) rfl ?_
                refine r_virtual (mj := 138) (b := 75) (as := [yi s]) (rest := []) f_141_108 (by decide) rfl m_138 (by decide) (by decide) (by decide) rfl rfl (Nat.le_of_ble_eq_true rfl) (by omega) (m_middle hs0 hs) ?_
                rintro _ _ _ ⟨v108, rfl, hv108, rfl, rfl⟩
                refine r_run 5 (pc' := 126) (ls' := [some (yr 75), some (yi s), some (yi (M 76 (5 * s))), some (yi (M 76 ((5 * s) + 3))), some (yi (M 76 ((5 * s) + 4))), some (yi v108)]) (st' := [yi 999, yi 0, yi v108]) (M' := M) (N' := N) rfl ?_
                refine r_static (mj := 113) (as := [yi v108, yi 0, yi 999]) (rest := []) f_141_126 (by decide) rfl m_113 rfl rfl rfl (Nat.le_of_ble_eq_true rfl) (by omega) (m_within (by omega) (by omega) (by omega)) ?_
                rintro _ _ _ ⟨v126, rfl, hv126, rfl, rfl⟩
                refine r_iret m_141 rfl f_141_129 ?_
                exact ⟨_, rfl, by unfold sUpTo; (repeat' split) <;> omega, rfl, rfl⟩
      · refine r_run 7 (pc' := 78) (ls' := [some (yr 75), some (yi s), some (yi (M 76 (5 * s))), some (yi (M 76 ((5 * s) + 3))), some (yi (M 76 ((5 * s) + 4))), some (yi (((M 76 ((5 * s) + 3)) + (M 76 ((5 * s) + 4))) + (M 75 4)))]) (st' := [yi 2, yi (M 76 (5 * s))]) (M' := M) (N' := N) rfl ?_
        refine r_icmp_eq (pc := 78) f_141_78 (by omega) (by omega) (fun h78 => ?_) (fun h78 => ?_)
        · refine r_run 2 (pc' := 88) (ls' := [some (yr 75), some (yi s), some (yi (M 76 (5 * s))), some (yi (M 76 ((5 * s) + 3))), some (yi (M 76 ((5 * s) + 4))), some (yi (((M 76 ((5 * s) + 3)) + (M 76 ((5 * s) + 4))) + (M 75 4)))]) (st' := [yi s, yr 75]) (M' := M) (N' := N) rfl ?_
          refine r_virtual (mj := 139) (b := 75) (as := [yi s]) (rest := []) f_141_88 (by decide) rfl m_139 (by decide) (by decide) (by decide) rfl rfl (Nat.le_of_ble_eq_true rfl) (by omega) (m_isExact hs0 hs hy) ?_
          rintro _ _ _ ⟨v88, rfl, hv88, rfl, rfl⟩
          refine r_if_ne (pc := 91) f_141_91 (by omega) (fun h91 => ?_) (fun h91 => ?_)
          · refine r_run 2 (pc' := 108) (ls' := [some (yr 75), some (yi s), some (yi (M 76 (5 * s))), some (yi (M 76 ((5 * s) + 3))), some (yi (M 76 ((5 * s) + 4))), some (yi (((M 76 ((5 * s) + 3)) + (M 76 ((5 * s) + 4))) + (M 75 4)))]) (st' := [yi s, yr 75]) (M' := M) (N' := N) rfl ?_
            refine r_virtual (mj := 138) (b := 75) (as := [yi s]) (rest := []) f_141_108 (by decide) rfl m_138 (by decide) (by decide) (by decide) rfl rfl (Nat.le_of_ble_eq_true rfl) (by omega) (m_middle hs0 hs) ?_
            rintro _ _ _ ⟨v108, rfl, hv108, rfl, rfl⟩
            refine r_run 5 (pc' := 126) (ls' := [some (yr 75), some (yi s), some (yi (M 76 (5 * s))), some (yi (M 76 ((5 * s) + 3))), some (yi (M 76 ((5 * s) + 4))), some (yi v108)]) (st' := [yi 999, yi 0, yi v108]) (M' := M) (N' := N) rfl ?_
            refine r_static (mj := 113) (as := [yi v108, yi 0, yi 999]) (rest := []) f_141_126 (by decide) rfl m_113 rfl rfl rfl (Nat.le_of_ble_eq_true rfl) (by omega) (m_within (by omega) (by omega) (by omega)) ?_
            rintro _ _ _ ⟨v126, rfl, hv126, rfl, rfl⟩
            refine r_iret m_141 rfl f_141_129 ?_
            exact ⟨_, rfl, by unfold sUpTo; (repeat' split) <;> omega, rfl, rfl⟩
          · refine r_run 5 (pc' := 100) (ls' := [some (yr 75), some (yi s), some (yi (M 76 (5 * s))), some (yi (M 76 ((5 * s) + 3))), some (yi (M 76 ((5 * s) + 4))), some (yi (((M 76 ((5 * s) + 3)) + (M 76 ((5 * s) + 4))) + (M 75 4)))]) (st' := [yi s, yr 75, yi ((M 76 ((5 * s) + 3)) - (M 76 ((5 * s) + 4)))]) (M' := M) (N' := N) rfl ?_
            refine r_virtual (mj := 138) (b := 75) (as := [yi s]) (rest := [yi ((M 76 ((5 * s) + 3)) - (M 76 ((5 * s) + 4)))]) f_141_100 (by decide) rfl m_138 (by decide) (by decide) (by decide) rfl rfl (Nat.le_of_ble_eq_true rfl) (by omega) (m_middle hs0 hs) ?_
            rintro _ _ _ ⟨v100, rfl, hv100, rfl, rfl⟩
            refine r_icmp_ge (pc := 103) f_141_103 (by omega) (by omega) (fun h103 => ?_) (fun h103 => ?_)
            · refine r_run 7 (pc' := 126) (ls' := [some (yr 75), some (yi s), some (yi (M 76 (5 * s))), some (yi (M 76 ((5 * s) + 3))), some (yi (M 76 ((5 * s) + 4))), some (yi ((M 76 ((5 * s) + 3)) - (M 76 ((5 * s) + 4))))]) (st' := [yi 999, yi 0, yi ((M 76 ((5 * s) + 3)) - (M 76 ((5 * s) + 4)))]) (M' := M) (N' := N) rfl ?_
              refine r_static (mj := 113) (as := [yi ((M 76 ((5 * s) + 3)) - (M 76 ((5 * s) + 4))), yi 0, yi 999]) (rest := []) f_141_126 (by decide) rfl m_113 rfl rfl rfl (Nat.le_of_ble_eq_true rfl) (by omega) (m_within (by omega) (by omega) (by omega)) ?_
              rintro _ _ _ ⟨v126, rfl, hv126, rfl, rfl⟩
              refine r_iret m_141 rfl f_141_129 ?_
              exact ⟨_, rfl, by unfold sUpTo; (repeat' split) <;> omega, rfl, rfl⟩
            · refine r_run 2 (pc' := 108) (ls' := [some (yr 75), some (yi s), some (yi (M 76 (5 * s))), some (yi (M 76 ((5 * s) + 3))), some (yi (M 76 ((5 * s) + 4))), some (yi (((M 76 ((5 * s) + 3)) + (M 76 ((5 * s) + 4))) + (M 75 4)))]) (st' := [yi s, yr 75]) (M' := M) (N' := N) rfl ?_
              refine r_virtual (mj := 138) (b := 75) (as := [yi s]) (rest := []) f_141_108 (by decide) rfl m_138 (by decide) (by decide) (by decide) rfl rfl (Nat.le_of_ble_eq_true rfl) (by omega) (m_middle hs0 hs) ?_
              rintro _ _ _ ⟨v108, rfl, hv108, rfl, rfl⟩
              refine r_run 5 (pc' := 126) (ls' := [some (yr 75), some (yi s), some (yi (M 76 (5 * s))), some (yi (M 76 ((5 * s) + 3))), some (yi (M 76 ((5 * s) + 4))), some (yi v108)]) (st' := [yi 999, yi 0, yi v108]) (M' := M) (N' := N) rfl ?_
              refine r_static (mj := 113) (as := [yi v108, yi 0, yi 999]) (rest := []) f_141_126 (by decide) rfl m_113 rfl rfl rfl (Nat.le_of_ble_eq_true rfl) (by omega) (m_within (by omega) (by omega) (by omega)) ?_
              rintro _ _ _ ⟨v126, rfl, hv126, rfl, rfl⟩
              refine r_iret m_141 rfl f_141_129 ?_
              exact ⟨_, rfl, by unfold sUpTo; (repeat' split) <;> omega, rfl, rfl⟩
        · refine r_run 2 (pc' := 83) (ls' := [some (yr 75), some (yi s), some (yi (M 76 (5 * s))), some (yi (M 76 ((5 * s) + 3))), some (yi (M 76 ((5 * s) + 4))), some (yi (((M 76 ((5 * s) + 3)) + (M 76 ((5 * s) + 4))) + (M 75 4)))]) (st' := [yi 4, yi (M 76 (5 * s))]) (M' := M) (N' := N) rfl ?_
          refine r_icmp_ne (pc := 83) f_141_83 (by omega) (by omega) (fun h83 => ?_) (fun h83 => ?_)
          · refine r_run 3 (pc' := 126) (ls' := [some (yr 75), some (yi s), some (yi (M 76 (5 * s))), some (yi (M 76 ((5 * s) + 3))), some (yi (M 76 ((5 * s) + 4))), some (yi (((M 76 ((5 * s) + 3)) + (M 76 ((5 * s) + 4))) + (M 75 4)))]) (st' := [yi 999, yi 0, yi (((M 76 ((5 * s) + 3)) + (M 76 ((5 * s) + 4))) + (M 75 4))]) (M' := M) (N' := N) rfl ?_
            refine r_static (mj := 113) (as := [yi (((M 76 ((5 * s) + 3)) + (M 76 ((5 * s) + 4))) + (M 75 4)), yi 0, yi 999]) (rest := []) f_141_126 (by decide) rfl m_113 rfl rfl rfl (Nat.le_of_ble_eq_true rfl) (by omega) (m_within (by omega) (by omega) (by omega)) ?_
            rintro _ _ _ ⟨v126, rfl, hv126, rfl, rfl⟩
            refine r_iret m_141 rfl f_141_129 ?_
            exact ⟨_, rfl, by unfold sUpTo; (repeat' split) <;> omega, rfl, rfl⟩
          · refine r_run 2 (pc' := 88) (ls' := [some (yr 75), some (yi s), some (yi (M 76 (5 * s))), some (yi (M 76 ((5 * s) + 3))), some (yi (M 76 ((5 * s) + 4))), some (yi (((M 76 ((5 * s) + 3)) + (M 76 ((5 * s) + 4))) + (M 75 4)))]) (st' := [yi s, yr 75]) (M' := M) (N' := N) rfl ?_
            refine r_virtual (mj := 139) (b := 75) (as := [yi s]) (rest := []) f_141_88 (by decide) rfl m_139 (by decide) (by decide) (by decide) rfl rfl (Nat.le_of_ble_eq_true rfl) (by omega) (m_isExact hs0 hs hy) ?_
            rintro _ _ _ ⟨v88, rfl, hv88, rfl, rfl⟩
            refine r_if_ne (pc := 91) f_141_91 (by omega) (fun h91 => ?_) (fun h91 => ?_)
            · refine r_run 2 (pc' := 108) (ls' := [some (yr 75), some (yi s), some (yi (M 76 (5 * s))), some (yi (M 76 ((5 * s) + 3))), some (yi (M 76 ((5 * s) + 4))), some (yi (((M 76 ((5 * s) + 3)) + (M 76 ((5 * s) + 4))) + (M 75 4)))]) (st' := [yi s, yr 75]) (M' := M) (N' := N) rfl ?_
              refine r_virtual (mj := 138) (b := 75) (as := [yi s]) (rest := []) f_141_108 (by decide) rfl m_138 (by decide) (by decide) (by decide) rfl rfl (Nat.le_of_ble_eq_true rfl) (by omega) (m_middle hs0 hs) ?_
              rintro _ _ _ ⟨v108, rfl, hv108, rfl, rfl⟩
              refine r_run 5 (pc' := 126) (ls' := [some (yr 75), some (yi s), some (yi (M 76 (5 * s))), some (yi (M 76 ((5 * s) + 3))), some (yi (M 76 ((5 * s) + 4))), some (yi v108)]) (st' := [yi 999, yi 0, yi v108]) (M' := M) (N' := N) rfl ?_
              refine r_static (mj := 113) (as := [yi v108, yi 0, yi 999]) (rest := []) f_141_126 (by decide) rfl m_113 rfl rfl rfl (Nat.le_of_ble_eq_true rfl) (by omega) (m_within (by omega) (by omega) (by omega)) ?_
              rintro _ _ _ ⟨v126, rfl, hv126, rfl, rfl⟩
              refine r_iret m_141 rfl f_141_129 ?_
              exact ⟨_, rfl, by unfold sUpTo; (repeat' split) <;> omega, rfl, rfl⟩
            · refine r_run 5 (pc' := 100) (ls' := [some (yr 75), some (yi s), some (yi (M 76 (5 * s))), some (yi (M 76 ((5 * s) + 3))), some (yi (M 76 ((5 * s) + 4))), some (yi (((M 76 ((5 * s) + 3)) + (M 76 ((5 * s) + 4))) + (M 75 4)))]) (st' := [yi s, yr 75, yi ((M 76 ((5 * s) + 3)) - (M 76 ((5 * s) + 4)))]) (M' := M) (N' := N) rfl ?_
              refine r_virtual (mj := 138) (b := 75) (as := [yi s]) (rest := [yi ((M 76 ((5 * s) + 3)) - (M 76 ((5 * s) + 4)))]) f_141_100 (by decide) rfl m_138 (by decide) (by decide) (by decide) rfl rfl (Nat.le_of_ble_eq_true rfl) (by omega) (m_middle hs0 hs) ?_
              rintro _ _ _ ⟨v100, rfl, hv100, rfl, rfl⟩
              refine r_icmp_ge (pc := 103) f_141_103 (by omega) (by omega) (fun h103 => ?_) (fun h103 => ?_)
              · refine r_run 7 (pc' := 126) (ls' := [some (yr 75), some (yi s), some (yi (M 76 (5 * s))), some (yi (M 76 ((5 * s) + 3))), some (yi (M 76 ((5 * s) + 4))), some (yi ((M 76 ((5 * s) + 3)) - (M 76 ((5 * s) + 4))))]) (st' := [yi 999, yi 0, yi ((M 76 ((5 * s) + 3)) - (M 76 ((5 * s) + 4)))]) (M' := M) (N' := N) rfl ?_
                refine r_static (mj := 113) (as := [yi ((M 76 ((5 * s) + 3)) - (M 76 ((5 * s) + 4))), yi 0, yi 999]) (rest := []) f_141_126 (by decide) rfl m_113 rfl rfl rfl (Nat.le_of_ble_eq_true rfl) (by omega) (m_within (by omega) (by omega) (by omega)) ?_
                rintro _ _ _ ⟨v126, rfl, hv126, rfl, rfl⟩
                refine r_iret m_141 rfl f_141_129 ?_
                exact ⟨_, rfl, by unfold sUpTo; (repeat' split) <;> omega, rfl, rfl⟩
              · refine r_run 2 (pc' := 108) (ls' := [some (yr 75), some (yi s), some (yi (M 76 (5 * s))), some (yi (M 76 ((5 * s) + 3))), some (yi (M 76 ((5 * s) + 4))), some (yi (((M 76 ((5 * s) + 3)) + (M 76 ((5 * s) + 4))) + (M 75 4)))]) (st' := [yi s, yr 75]) (M' := M) (N' := N) rfl ?_
                refine r_virtual (mj := 138) (b := 75) (as := [yi s]) (rest := []) f_141_108 (by decide) rfl m_138 (by decide) (by decide) (by decide) rfl rfl (Nat.le_of_ble_eq_true rfl) (by omega) (m_middle hs0 hs) ?_
                rintro _ _ _ ⟨v108, rfl, hv108, rfl, rfl⟩
                refine r_run 5 (pc' := 126) (ls' := [some (yr 75), some (yi s), some (yi (M 76 (5 * s))), some (yi (M 76 ((5 * s) + 3))), some (yi (M 76 ((5 * s) + 4))), some (yi v108)]) (st' := [yi 999, yi 0, yi v108]) (M' := M) (N' := N) rfl ?_
                refine r_static (mj := 113) (as := [yi v108, yi 0, yi 999]) (rest := []) f_141_126 (by decide) rfl m_113 rfl rfl rfl (Nat.le_of_ble_eq_true rfl) (by omega) (m_within (by omega) (by omega) (by omega)) ?_
                rintro _ _ _ ⟨v126, rfl, hv126, rfl, rfl⟩
                refine r_iret m_141 rfl f_141_129 ?_
                exact ⟨_, rfl, by unfold sUpTo; (repeat' split) <;> omega, rfl, rfl⟩
    · refine r_run 2 (pc' := 53) (ls' := [some (yr 75), some (yi s), some (yi (M 76 (5 * s))), some (yi (M 76 ((5 * s) + 3))), some (yi (M 76 ((5 * s) + 4))), some (yi (M 76 ((5 * s) + 3)))]) (st' := [yi 3, yi (M 76 (5 * s))]) (M' := M) (N' := N) rfl ?_
      refine r_icmp_ne (pc := 53) f_141_53 (by omega) (by omega) (fun h53 => ?_) (fun h53 => ?_)
      · refine r_run 2 (pc' := 78) (ls' := [some (yr 75), some (yi s), some (yi (M 76 (5 * s))), some (yi (M 76 ((5 * s) + 3))), some (yi (M 76 ((5 * s) + 4))), some (yi (M 76 ((5 * s) + 3)))]) (st' := [yi 2, yi (M 76 (5 * s))]) (M' := M) (N' := N) rfl ?_
        refine r_icmp_eq (pc := 78) f_141_78 (by omega) (by omega) (fun h78 => ?_) (fun h78 => ?_)
        · refine r_run 2 (pc' := 88) (ls' := [some (yr 75), some (yi s), some (yi (M 76 (5 * s))), some (yi (M 76 ((5 * s) + 3))), some (yi (M 76 ((5 * s) + 4))), some (yi (M 76 ((5 * s) + 3)))]) (st' := [yi s, yr 75]) (M' := M) (N' := N) rfl ?_
          refine r_virtual (mj := 139) (b := 75) (as := [yi s]) (rest := []) f_141_88 (by decide) rfl m_139 (by decide) (by decide) (by decide) rfl rfl (Nat.le_of_ble_eq_true rfl) (by omega) (m_isExact hs0 hs hy) ?_
          rintro _ _ _ ⟨v88, rfl, hv88, rfl, rfl⟩
          refine r_if_ne (pc := 91) f_141_91 (by omega) (fun h91 => ?_) (fun h91 => ?_)
          · refine r_run 2 (pc' := 108) (ls' := [some (yr 75), some (yi s), some (yi (M 76 (5 * s))), some (yi (M 76 ((5 * s) + 3))), some (yi (M 76 ((5 * s) + 4))), some (yi (M 76 ((5 * s) + 3)))]) (st' := [yi s, yr 75]) (M' := M) (N' := N) rfl ?_
            refine r_virtual (mj := 138) (b := 75) (as := [yi s]) (rest := []) f_141_108 (by decide) rfl m_138 (by decide) (by decide) (by decide) rfl rfl (Nat.le_of_ble_eq_true rfl) (by omega) (m_middle hs0 hs) ?_
            rintro _ _ _ ⟨v108, rfl, hv108, rfl, rfl⟩
            refine r_run 5 (pc' := 126) (ls' := [some (yr 75), some (yi s), some (yi (M 76 (5 * s))), some (yi (M 76 ((5 * s) + 3))), some (yi (M 76 ((5 * s) + 4))), some (yi v108)]) (st' := [yi 999, yi 0, yi v108]) (M' := M) (N' := N) rfl ?_
            refine r_static (mj := 113) (as := [yi v108, yi 0, yi 999]) (rest := []) f_141_126 (by decide) rfl m_113 rfl rfl rfl (Nat.le_of_ble_eq_true rfl) (by omega) (m_within (by omega) (by omega) (by omega)) ?_
            rintro _ _ _ ⟨v126, rfl, hv126, rfl, rfl⟩
            refine r_iret m_141 rfl f_141_129 ?_
            exact ⟨_, rfl, by unfold sUpTo; (repeat' split) <;> omega, rfl, rfl⟩
          · refine r_run 5 (pc' := 100) (ls' := [some (yr 75), some (yi s), some (yi (M 76 (5 * s))), some (yi (M 76 ((5 * s) + 3))), some (yi (M 76 ((5 * s) + 4))), some (yi (M 76 ((5 * s) + 3)))]) (st' := [yi s, yr 75, yi ((M 76 ((5 * s) + 3)) - (M 76 ((5 * s) + 4)))]) (M' := M) (N' := N) rfl ?_
            refine r_virtual (mj := 138) (b := 75) (as := [yi s]) (rest := [yi ((M 76 ((5 * s) + 3)) - (M 76 ((5 * s) + 4)))]) f_141_100 (by decide) rfl m_138 (by decide) (by decide) (by decide) rfl rfl (Nat.le_of_ble_eq_true rfl) (by omega) (m_middle hs0 hs) ?_
            rintro _ _ _ ⟨v100, rfl, hv100, rfl, rfl⟩
            refine r_icmp_ge (pc := 103) f_141_103 (by omega) (by omega) (fun h103 => ?_) (fun h103 => ?_)
            · refine r_run 7 (pc' := 126) (ls' := [some (yr 75), some (yi s), some (yi (M 76 (5 * s))), some (yi (M 76 ((5 * s) + 3))), some (yi (M 76 ((5 * s) + 4))), some (yi ((M 76 ((5 * s) + 3)) - (M 76 ((5 * s) + 4))))]) (st' := [yi 999, yi 0, yi ((M 76 ((5 * s) + 3)) - (M 76 ((5 * s) + 4)))]) (M' := M) (N' := N) rfl ?_
              refine r_static (mj := 113) (as := [yi ((M 76 ((5 * s) + 3)) - (M 76 ((5 * s) + 4))), yi 0, yi 999]) (rest := []) f_141_126 (by decide) rfl m_113 rfl rfl rfl (Nat.le_of_ble_eq_true rfl) (by omega) (m_within (by omega) (by omega) (by omega)) ?_
              rintro _ _ _ ⟨v126, rfl, hv126, rfl, rfl⟩
              refine r_iret m_141 rfl f_141_129 ?_
              exact ⟨_, rfl, by unfold sUpTo; (repeat' split) <;> omega, rfl, rfl⟩
            · refine r_run 2 (pc' := 108) (ls' := [some (yr 75), some (yi s), some (yi (M 76 (5 * s))), some (yi (M 76 ((5 * s) + 3))), some (yi (M 76 ((5 * s) + 4))), some (yi (M 76 ((5 * s) + 3)))]) (st' := [yi s, yr 75]) (M' := M) (N' := N) rfl ?_
              refine r_virtual (mj := 138) (b := 75) (as := [yi s]) (rest := []) f_141_108 (by decide) rfl m_138 (by decide) (by decide) (by decide) rfl rfl (Nat.le_of_ble_eq_true rfl) (by omega) (m_middle hs0 hs) ?_
              rintro _ _ _ ⟨v108, rfl, hv108, rfl, rfl⟩
              refine r_run 5 (pc' := 126) (ls' := [some (yr 75), some (yi s), some (yi (M 76 (5 * s))), some (yi (M 76 ((5 * s) + 3))), some (yi (M 76 ((5 * s) + 4))), some (yi v108)]) (st' := [yi 999, yi 0, yi v108]) (M' := M) (N' := N) rfl ?_
              refine r_static (mj := 113) (as := [yi v108, yi 0, yi 999]) (rest := []) f_141_126 (by decide) rfl m_113 rfl rfl rfl (Nat.le_of_ble_eq_true rfl) (by omega) (m_within (by omega) (by omega) (by omega)) ?_
              rintro _ _ _ ⟨v126, rfl, hv126, rfl, rfl⟩
              refine r_iret m_141 rfl f_141_129 ?_
              exact ⟨_, rfl, by unfold sUpTo; (repeat' split) <;> omega, rfl, rfl⟩
        · refine r_run 2 (pc' := 83) (ls' := [some (yr 75), some (yi s), some (yi (M 76 (5 * s))), some (yi (M 76 ((5 * s) + 3))), some (yi (M 76 ((5 * s) + 4))), some (yi (M 76 ((5 * s) + 3)))]) (st' := [yi 4, yi (M 76 (5 * s))]) (M' := M) (N' := N) rfl ?_
          refine r_icmp_ne (pc := 83) f_141_83 (by omega) (by omega) (fun h83 => ?_) (fun h83 => ?_)
          · refine r_run 3 (pc' := 126) (ls' := [some (yr 75), some (yi s), some (yi (M 76 (5 * s))), some (yi (M 76 ((5 * s) + 3))), some (yi (M 76 ((5 * s) + 4))), some (yi (M 76 ((5 * s) + 3)))]) (st' := [yi 999, yi 0, yi (M 76 ((5 * s) + 3))]) (M' := M) (N' := N) rfl ?_
            refine r_static (mj := 113) (as := [yi (M 76 ((5 * s) + 3)), yi 0, yi 999]) (rest := []) f_141_126 (by decide) rfl m_113 rfl rfl rfl (Nat.le_of_ble_eq_true rfl) (by omega) (m_within (by omega) (by omega) (by omega)) ?_
            rintro _ _ _ ⟨v126, rfl, hv126, rfl, rfl⟩
            refine r_iret m_141 rfl f_141_129 ?_
            exact ⟨_, rfl, by unfold sUpTo; (repeat' split) <;> omega, rfl, rfl⟩
          · refine r_run 2 (pc' := 88) (ls' := [some (yr 75), some (yi s), some (yi (M 76 (5 * s))), some (yi (M 76 ((5 * s) + 3))), some (yi (M 76 ((5 * s) + 4))), some (yi (M 76 ((5 * s) + 3)))]) (st' := [yi s, yr 75]) (M' := M) (N' := N) rfl ?_
            refine r_virtual (mj := 139) (b := 75) (as := [yi s]) (rest := []) f_141_88 (by decide) rfl m_139 (by decide) (by decide) (by decide) rfl rfl (Nat.le_of_ble_eq_true rfl) (by omega) (m_isExact hs0 hs hy) ?_
            rintro _ _ _ ⟨v88, rfl, hv88, rfl, rfl⟩
            refine r_if_ne (pc := 91) f_141_91 (by omega) (fun h91 => ?_) (fun h91 => ?_)
            · refine r_run 2 (pc' := 108) (ls' := [some (yr 75), some (yi s), some (yi (M 76 (5 * s))), some (yi (M 76 ((5 * s) + 3))), some (yi (M 76 ((5 * s) + 4))), some (yi (M 76 ((5 * s) + 3)))]) (st' := [yi s, yr 75]) (M' := M) (N' := N) rfl ?_
              refine r_virtual (mj := 138) (b := 75) (as := [yi s]) (rest := []) f_141_108 (by decide) rfl m_138 (by decide) (by decide) (by decide) rfl rfl (Nat.le_of_ble_eq_true rfl) (by omega) (m_middle hs0 hs) ?_
              rintro _ _ _ ⟨v108, rfl, hv108, rfl, rfl⟩
              refine r_run 5 (pc' := 126) (ls' := [some (yr 75), some (yi s), some (yi (M 76 (5 * s))), some (yi (M 76 ((5 * s) + 3))), some (yi (M 76 ((5 * s) + 4))), some (yi v108)]) (st' := [yi 999, yi 0, yi v108]) (M' := M) (N' := N) rfl ?_
              refine r_static (mj := 113) (as := [yi v108, yi 0, yi 999]) (rest := []) f_141_126 (by decide) rfl m_113 rfl rfl rfl (Nat.le_of_ble_eq_true rfl) (by omega) (m_within (by omega) (by omega) (by omega)) ?_
              rintro _ _ _ ⟨v126, rfl, hv126, rfl, rfl⟩
              refine r_iret m_141 rfl f_141_129 ?_
              exact ⟨_, rfl, by unfold sUpTo; (repeat' split) <;> omega, rfl, rfl⟩
            · refine r_run 5 (pc' := 100) (ls' := [some (yr 75), some (yi s), some (yi (M 76 (5 * s))), some (yi (M 76 ((5 * s) + 3))), some (yi (M 76 ((5 * s) + 4))), some (yi (M 76 ((5 * s) + 3)))]) (st' := [yi s, yr 75, yi ((M 76 ((5 * s) + 3)) - (M 76 ((5 * s) + 4)))]) (M' := M) (N' := N) rfl ?_
              refine r_virtual (mj := 138) (b := 75) (as := [yi s]) (rest := [yi ((M 76 ((5 * s) + 3)) - (M 76 ((5 * s) + 4)))]) f_141_100 (by decide) rfl m_138 (by decide) (by decide) (by decide) rfl rfl (Nat.le_of_ble_eq_true rfl) (by omega) (m_middle hs0 hs) ?_
              rintro _ _ _ ⟨v100, rfl, hv100, rfl, rfl⟩
              refine r_icmp_ge (pc := 103) f_141_103 (by omega) (by omega) (fun h103 => ?_) (fun h103 => ?_)
              · refine r_run 7 (pc' := 126) (ls' := [some (yr 75), some (yi s), some (yi (M 76 (5 * s))), some (yi (M 76 ((5 * s) + 3))), some (yi (M 76 ((5 * s) + 4))), some (yi ((M 76 ((5 * s) + 3)) - (M 76 ((5 * s) + 4))))]) (st' := [yi 999, yi 0, yi ((M 76 ((5 * s) + 3)) - (M 76 ((5 * s) + 4)))]) (M' := M) (N' := N) rfl ?_
                refine r_static (mj := 113) (as := [yi ((M 76 ((5 * s) + 3)) - (M 76 ((5 * s) + 4))), yi 0, yi 999]) (rest := []) f_141_126 (by decide) rfl m_113 rfl rfl rfl (Nat.le_of_ble_eq_true rfl) (by omega) (m_within (by omega) (by omega) (by omega)) ?_
                rintro _ _ _ ⟨v126, rfl, hv126, rfl, rfl⟩
                refine r_iret m_141 rfl f_141_129 ?_
                exact ⟨_, rfl, by unfold sUpTo; (repeat' split) <;> omega, rfl, rfl⟩
              · refine r_run 2 (pc' := 108) (ls' := [some (yr 75), some (yi s), some (yi (M 76 (5 * s))), some (yi (M 76 ((5 * s) + 3))), some (yi (M 76 ((5 * s) + 4))), some (yi (M 76 ((5 * s) + 3)))]) (st' := [yi s, yr 75]) (M' := M) (N' := N) rfl ?_
                refine r_virtual (mj := 138) (b := 75) (as := [yi s]) (rest := []) f_141_108 (by decide) rfl m_138 (by decide) (by decide) (by decide) rfl rfl (Nat.le_of_ble_eq_true rfl) (by omega) (m_middle hs0 hs) ?_
                rintro _ _ _ ⟨v108, rfl, hv108, rfl, rfl⟩
                refine r_run 5 (pc' := 126) (ls' := [some (yr 75), some (yi s), some (yi (M 76 (5 * s))), some (yi (M 76 ((5 * s) + 3))), some (yi (M 76 ((5 * s) + 4))), some (yi v108)]) (st' := [yi 999, yi 0, yi v108]) (M' := M) (N' := N) rfl ?_
                refine r_static (mj := 113) (as := [yi v108, yi 0, yi 999]) (rest := []) f_141_126 (by decide) rfl m_113 rfl rfl rfl (Nat.le_of_ble_eq_true rfl) (by omega) (m_within (by omega) (by omega) (by omega)) ?_
                rintro _ _ _ ⟨v126, rfl, hv126, rfl, rfl⟩
                refine r_iret m_141 rfl f_141_129 ?_
                exact ⟨_, rfl, by unfold sUpTo; (repeat' split) <;> omega, rfl, rfl⟩
      · refine r_run 5 (pc' := 62) (ls' := [some (yr 75), some (yi s), some (yi (M 76 (5 * s))), some (yi (M 76 ((5 * s) + 3))), some (yi (M 76 ((5 * s) + 4))), some (yi (M 76 ((5 * s) + 3)))]) (st' := [yi 3, yi (M 76 (5 * s)), yi ((M 76 ((5 * s) + 3)) + (M 76 ((5 * s) + 4)))]) (M' := M) (N' := N) rfl ?_
        refine r_icmp_ne (pc := 62) f_141_62 (by omega) (by omega) (fun h62 => ?_) (fun h62 => ?_)
        · refine r_run 5 (pc' := 78) (ls' := [some (yr 75), some (yi s), some (yi (M 76 (5 * s))), some (yi (M 76 ((5 * s) + 3))), some (yi (M 76 ((5 * s) + 4))), some (yi (((M 76 ((5 * s) + 3)) + (M 76 ((5 * s) + 4))) + 0))]) (st' := [yi 2, yi (M 76 (5 * s))]) (M' := M) (N' := N) rfl ?_
          refine r_icmp_eq (pc := 78) f_141_78 (by omega) (by omega) (fun h78 => ?_) (fun h78 => ?_)
          · refine r_run 2 (pc' := 88) (ls' := [some (yr 75), some (yi s), some (yi (M 76 (5 * s))), some (yi (M 76 ((5 * s) + 3))), some (yi (M 76 ((5 * s) + 4))), some (yi (((M 76 ((5 * s) + 3)) + (M 76 ((5 * s) + 4))) + 0))]) (st' := [yi s, yr 75]) (M' := M) (N' := N) rfl ?_
            refine r_virtual (mj := 139) (b := 75) (as := [yi s]) (rest := []) f_141_88 (by decide) rfl m_139 (by decide) (by decide) (by decide) rfl rfl (Nat.le_of_ble_eq_true rfl) (by omega) (m_isExact hs0 hs hy) ?_
            rintro _ _ _ ⟨v88, rfl, hv88, rfl, rfl⟩
            refine r_if_ne (pc := 91) f_141_91 (by omega) (fun h91 => ?_) (fun h91 => ?_)
            · refine r_run 2 (pc' := 108) (ls' := [some (yr 75), some (yi s), some (yi (M 76 (5 * s))), some (yi (M 76 ((5 * s) + 3))), some (yi (M 76 ((5 * s) + 4))), some (yi (((M 76 ((5 * s) + 3)) + (M 76 ((5 * s) + 4))) + 0))]) (st' := [yi s, yr 75]) (M' := M) (N' := N) rfl ?_
              refine r_virtual (mj := 138) (b := 75) (as := [yi s]) (rest := []) f_141_108 (by decide) rfl m_138 (by decide) (by decide) (by decide) rfl rfl (Nat.le_of_ble_eq_true rfl) (by omega) (m_middle hs0 hs) ?_
              rintro _ _ _ ⟨v108, rfl, hv108, rfl, rfl⟩
              refine r_run 5 (pc' := 126) (ls' := [some (yr 75), some (yi s), some (yi (M 76 (5 * s))), some (yi (M 76 ((5 * s) + 3))), some (yi (M 76 ((5 * s) + 4))), some (yi v108)]) (st' := [yi 999, yi 0, yi v108]) (M' := M) (N' := N) rfl ?_
              refine r_static (mj := 113) (as := [yi v108, yi 0, yi 999]) (rest := []) f_141_126 (by decide) rfl m_113 rfl rfl rfl (Nat.le_of_ble_eq_true rfl) (by omega) (m_within (by omega) (by omega) (by omega)) ?_
              rintro _ _ _ ⟨v126, rfl, hv126, rfl, rfl⟩
              refine r_iret m_141 rfl f_141_129 ?_
              exact ⟨_, rfl, by unfold sUpTo; (repeat' split) <;> omega, rfl, rfl⟩
            · refine r_run 5 (pc' := 100) (ls' := [some (yr 75), some (yi s), some (yi (M 76 (5 * s))), some (yi (M 76 ((5 * s) + 3))), some (yi (M 76 ((5 * s) + 4))), some (yi (((M 76 ((5 * s) + 3)) + (M 76 ((5 * s) + 4))) + 0))]) (st' := [yi s, yr 75, yi ((M 76 ((5 * s) + 3)) - (M 76 ((5 * s) + 4)))]) (M' := M) (N' := N) rfl ?_
              refine r_virtual (mj := 138) (b := 75) (as := [yi s]) (rest := [yi ((M 76 ((5 * s) + 3)) - (M 76 ((5 * s) + 4)))]) f_141_100 (by decide) rfl m_138 (by decide) (by decide) (by decide) rfl rfl (Nat.le_of_ble_eq_true rfl) (by omega) (m_middle hs0 hs) ?_
              rintro _ _ _ ⟨v100, rfl, hv100, rfl, rfl⟩
              refine r_icmp_ge (pc := 103) f_141_103 (by omega) (by omega) (fun h103 => ?_) (fun h103 => ?_)
              · refine r_run 7 (pc' := 126) (ls' := [some (yr 75), some (yi s), some (yi (M 76 (5 * s))), some (yi (M 76 ((5 * s) + 3))), some (yi (M 76 ((5 * s) + 4))), some (yi ((M 76 ((5 * s) + 3)) - (M 76 ((5 * s) + 4))))]) (st' := [yi 999, yi 0, yi ((M 76 ((5 * s) + 3)) - (M 76 ((5 * s) + 4)))]) (M' := M) (N' := N) rfl ?_
                refine r_static (mj := 113) (as := [yi ((M 76 ((5 * s) + 3)) - (M 76 ((5 * s) + 4))), yi 0, yi 999]) (rest := []) f_141_126 (by decide) rfl m_113 rfl rfl rfl (Nat.le_of_ble_eq_true rfl) (by omega) (m_within (by omega) (by omega) (by omega)) ?_
                rintro _ _ _ ⟨v126, rfl, hv126, rfl, rfl⟩
                refine r_iret m_141 rfl f_141_129 ?_
                exact ⟨_, rfl, by unfold sUpTo; (repeat' split) <;> omega, rfl, rfl⟩
              · refine r_run 2 (pc' := 108) (ls' := [some (yr 75), some (yi s), some (yi (M 76 (5 * s))), some (yi (M 76 ((5 * s) + 3))), some (yi (M 76 ((5 * s) + 4))), some (yi (((M 76 ((5 * s) + 3)) + (M 76 ((5 * s) + 4))) + 0))]) (st' := [yi s, yr 75]) (M' := M) (N' := N) rfl ?_
                refine r_virtual (mj := 138) (b := 75) (as := [yi s]) (rest := []) f_141_108 (by decide) rfl m_138 (by decide) (by decide) (by decide) rfl rfl (Nat.le_of_ble_eq_true rfl) (by omega) (m_middle hs0 hs) ?_
                rintro _ _ _ ⟨v108, rfl, hv108, rfl, rfl⟩
                refine r_run 5 (pc' := 126) (ls' := [some (yr 75), some (yi s), some (yi (M 76 (5 * s))), some (yi (M 76 ((5 * s) + 3))), some (yi (M 76 ((5 * s) + 4))), some (yi v108)]) (st' := [yi 999, yi 0, yi v108]) (M' := M) (N' := N) rfl ?_
                refine r_static (mj := 113) (as := [yi v108, yi 0, yi 999]) (rest := []) f_141_126 (by decide) rfl m_113 rfl rfl rfl (Nat.le_of_ble_eq_true rfl) (by omega) (m_within (by omega) (by omega) (by omega)) ?_
                rintro _ _ _ ⟨v126, rfl, hv126, rfl, rfl⟩
                refine r_iret m_141 rfl f_141_129 ?_
                exact ⟨_, rfl, by unfold sUpTo; (repeat' split) <;> omega, rfl, rfl⟩
          · refine r_run 2 (pc' := 83) (ls' := [some (yr 75), some (yi s), some (yi (M 76 (5 * s))), some (yi (M 76 ((5 * s) + 3))), some (yi (M 76 ((5 * s) + 4))), some (yi (((M 76 ((5 * s) + 3)) + (M 76 ((5 * s) + 4))) + 0))]) (st' := [yi 4, yi (M 76 (5 * s))]) (M' := M) (N' := N) rfl ?_
            refine r_icmp_ne (pc := 83) f_141_83 (by omega) (by omega) (fun h83 => ?_) (fun h83 => ?_)
            · refine r_run 3 (pc' := 126) (ls' := [some (yr 75), some (yi s), some (yi (M 76 (5 * s))), some (yi (M 76 ((5 * s) + 3))), some (yi (M 76 ((5 * s) + 4))), some (yi (((M 76 ((5 * s) + 3)) + (M 76 ((5 * s) + 4))) + 0))]) (st' := [yi 999, yi 0, yi (((M 76 ((5 * s) + 3)) + (M 76 ((5 * s) + 4))) + 0)]) (M' := M) (N' := N) rfl ?_
              refine r_static (mj := 113) (as := [yi (((M 76 ((5 * s) + 3)) + (M 76 ((5 * s) + 4))) + 0), yi 0, yi 999]) (rest := []) f_141_126 (by decide) rfl m_113 rfl rfl rfl (Nat.le_of_ble_eq_true rfl) (by omega) (m_within (by omega) (by omega) (by omega)) ?_
              rintro _ _ _ ⟨v126, rfl, hv126, rfl, rfl⟩
              refine r_iret m_141 rfl f_141_129 ?_
              exact ⟨_, rfl, by unfold sUpTo; (repeat' split) <;> omega, rfl, rfl⟩
            · refine r_run 2 (pc' := 88) (ls' := [some (yr 75), some (yi s), some (yi (M 76 (5 * s))), some (yi (M 76 ((5 * s) + 3))), some (yi (M 76 ((5 * s) + 4))), some (yi (((M 76 ((5 * s) + 3)) + (M 76 ((5 * s) + 4))) + 0))]) (st' := [yi s, yr 75]) (M' := M) (N' := N) rfl ?_
              refine r_virtual (mj := 139) (b := 75) (as := [yi s]) (rest := []) f_141_88 (by decide) rfl m_139 (by decide) (by decide) (by decide) rfl rfl (Nat.le_of_ble_eq_true rfl) (by omega) (m_isExact hs0 hs hy) ?_
              rintro _ _ _ ⟨v88, rfl, hv88, rfl, rfl⟩
              refine r_if_ne (pc := 91) f_141_91 (by omega) (fun h91 => ?_) (fun h91 => ?_)
              · refine r_run 2 (pc' := 108) (ls' := [some (yr 75), some (yi s), some (yi (M 76 (5 * s))), some (yi (M 76 ((5 * s) + 3))), some (yi (M 76 ((5 * s) + 4))), some (yi (((M 76 ((5 * s) + 3)) + (M 76 ((5 * s) + 4))) + 0))]) (st' := [yi s, yr 75]) (M' := M) (N' := N) rfl ?_
                refine r_virtual (mj := 138) (b := 75) (as := [yi s]) (rest := []) f_141_108 (by decide) rfl m_138 (by decide) (by decide) (by decide) rfl rfl (Nat.le_of_ble_eq_true rfl) (by omega) (m_middle hs0 hs) ?_
                rintro _ _ _ ⟨v108, rfl, hv108, rfl, rfl⟩
                refine r_run 5 (pc' := 126) (ls' := [some (yr 75), some (yi s), some (yi (M 76 (5 * s))), some (yi (M 76 ((5 * s) + 3))), some (yi (M 76 ((5 * s) + 4))), some (yi v108)]) (st' := [yi 999, yi 0, yi v108]) (M' := M) (N' := N) rfl ?_
                refine r_static (mj := 113) (as := [yi v108, yi 0, yi 999]) (rest := []) f_141_126 (by decide) rfl m_113 rfl rfl rfl (Nat.le_of_ble_eq_true rfl) (by omega) (m_within (by omega) (by omega) (by omega)) ?_
                rintro _ _ _ ⟨v126, rfl, hv126, rfl, rfl⟩
                refine r_iret m_141 rfl f_141_129 ?_
                exact ⟨_, rfl, by unfold sUpTo; (repeat' split) <;> omega, rfl, rfl⟩
              · refine r_run 5 (pc' := 100) (ls' := [some (yr 75), some (yi s), some (yi (M 76 (5 * s))), some (yi (M 76 ((5 * s) + 3))), some (yi (M 76 ((5 * s) + 4))), some (yi (((M 76 ((5 * s) + 3)) + (M 76 ((5 * s) + 4))) + 0))]) (st' := [yi s, yr 75, yi ((M 76 ((5 * s) + 3)) - (M 76 ((5 * s) + 4)))]) (M' := M) (N' := N) rfl ?_
                refine r_virtual (mj := 138) (b := 75) (as := [yi s]) (rest := [yi ((M 76 ((5 * s) + 3)) - (M 76 ((5 * s) + 4)))]) f_141_100 (by decide) rfl m_138 (by decide) (by decide) (by decide) rfl rfl (Nat.le_of_ble_eq_true rfl) (by omega) (m_middle hs0 hs) ?_
                rintro _ _ _ ⟨v100, rfl, hv100, rfl, rfl⟩
                refine r_icmp_ge (pc := 103) f_141_103 (by omega) (by omega) (fun h103 => ?_) (fun h103 => ?_)
                · refine r_run 7 (pc' := 126) (ls' := [some (yr 75), some (yi s), some (yi (M 76 (5 * s))), some (yi (M 76 ((5 * s) + 3))), some (yi (M 76 ((5 * s) + 4))), some (yi ((M 76 ((5 * s) + 3)) - (M 76 ((5 * s) + 4))))]) (st' := [yi 999, yi 0, yi ((M 76 ((5 * s) + 3)) - (M 76 ((5 * s) + 4)))]) (M' := M) (N' := N) rfl ?_
                  refine r_static (mj := 113) (as := [yi ((M 76 ((5 * s) + 3)) - (M 76 ((5 * s) + 4))), yi 0, yi 999]) (rest := []) f_141_126 (by decide) rfl m_113 rfl rfl rfl (Nat.le_of_ble_eq_true rfl) (by omega) (m_within (by omega) (by omega) (by omega)) ?_
                  rintro _ _ _ ⟨v126, rfl, hv126, rfl, rfl⟩
                  refine r_iret m_141 rfl f_141_129 ?_
                  exact ⟨_, rfl, by unfold sUpTo; (repeat' split) <;> omega, rfl, rfl⟩
                · refine r_run 2 (pc' := 108) (ls' := [some (yr 75), some (yi s), some (yi (M 76 (5 * s))), some (yi (M 76 ((5 * s) + 3))), some (yi (M 76 ((5 * s) + 4))), some (yi (((M 76 ((5 * s) + 3)) + (M 76 ((5 * s) + 4))) + 0))]) (st' := [yi s, yr 75]) (M' := M) (N' := N) rfl ?_
                  refine r_virtual (mj := 138) (b := 75) (as := [yi s]) (rest := []) f_141_108 (by decide) rfl m_138 (by decide) (by decide) (by decide) rfl rfl (Nat.le_of_ble_eq_true rfl) (by omega) (m_middle hs0 hs) ?_
                  rintro _ _ _ ⟨v108, rfl, hv108, rfl, rfl⟩
                  refine r_run 5 (pc' := 126) (ls' := [some (yr 75), some (yi s), some (yi (M 76 (5 * s))), some (yi (M 76 ((5 * s) + 3))), some (yi (M 76 ((5 * s) + 4))), some (yi v108)]) (st' := [yi 999, yi 0, yi v108]) (M' := M) (N' := N) rfl ?_
                  refine r_static (mj := 113) (as := [yi v108, yi 0, yi 999]) (rest := []) f_141_126 (by decide) rfl m_113 rfl rfl rfl (Nat.le_of_ble_eq_true rfl) (by omega) (m_within (by omega) (by omega) (by omega)) ?_
                  rintro _ _ _ ⟨v126, rfl, hv126, rfl, rfl⟩
                  refine r_iret m_141 rfl f_141_129 ?_
                  exact ⟨_, rfl, by unfold sUpTo; (repeat' split) <;> omega, rfl, rfl⟩
        · refine r_run 7 (pc' := 78) (ls' := [some (yr 75), some (yi s), some (yi (M 76 (5 * s))), some (yi (M 76 ((5 * s) + 3))), some (yi (M 76 ((5 * s) + 4))), some (yi (((M 76 ((5 * s) + 3)) + (M 76 ((5 * s) + 4))) + (M 75 4)))]) (st' := [yi 2, yi (M 76 (5 * s))]) (M' := M) (N' := N) rfl ?_
          refine r_icmp_eq (pc := 78) f_141_78 (by omega) (by omega) (fun h78 => ?_) (fun h78 => ?_)
          · refine r_run 2 (pc' := 88) (ls' := [some (yr 75), some (yi s), some (yi (M 76 (5 * s))), some (yi (M 76 ((5 * s) + 3))), some (yi (M 76 ((5 * s) + 4))), some (yi (((M 76 ((5 * s) + 3)) + (M 76 ((5 * s) + 4))) + (M 75 4)))]) (st' := [yi s, yr 75]) (M' := M) (N' := N) rfl ?_
            refine r_virtual (mj := 139) (b := 75) (as := [yi s]) (rest := []) f_141_88 (by decide) rfl m_139 (by decide) (by decide) (by decide) rfl rfl (Nat.le_of_ble_eq_true rfl) (by omega) (m_isExact hs0 hs hy) ?_
            rintro _ _ _ ⟨v88, rfl, hv88, rfl, rfl⟩
            refine r_if_ne (pc := 91) f_141_91 (by omega) (fun h91 => ?_) (fun h91 => ?_)
            · refine r_run 2 (pc' := 108) (ls' := [some (yr 75), some (yi s), some (yi (M 76 (5 * s))), some (yi (M 76 ((5 * s) + 3))), some (yi (M 76 ((5 * s) + 4))), some (yi (((M 76 ((5 * s) + 3)) + (M 76 ((5 * s) + 4))) + (M 75 4)))]) (st' := [yi s, yr 75]) (M' := M) (N' := N) rfl ?_
              refine r_virtual (mj := 138) (b := 75) (as := [yi s]) (rest := []) f_141_108 (by decide) rfl m_138 (by decide) (by decide) (by decide) rfl rfl (Nat.le_of_ble_eq_true rfl) (by omega) (m_middle hs0 hs) ?_
              rintro _ _ _ ⟨v108, rfl, hv108, rfl, rfl⟩
              refine r_run 5 (pc' := 126) (ls' := [some (yr 75), some (yi s), some (yi (M 76 (5 * s))), some (yi (M 76 ((5 * s) + 3))), some (yi (M 76 ((5 * s) + 4))), some (yi v108)]) (st' := [yi 999, yi 0, yi v108]) (M' := M) (N' := N) rfl ?_
              refine r_static (mj := 113) (as := [yi v108, yi 0, yi 999]) (rest := []) f_141_126 (by decide) rfl m_113 rfl rfl rfl (Nat.le_of_ble_eq_true rfl) (by omega) (m_within (by omega) (by omega) (by omega)) ?_
              rintro _ _ _ ⟨v126, rfl, hv126, rfl, rfl⟩
              refine r_iret m_141 rfl f_141_129 ?_
              exact ⟨_, rfl, by unfold sUpTo; (repeat' split) <;> omega, rfl, rfl⟩
            · refine r_run 5 (pc' := 100) (ls' := [some (yr 75), some (yi s), some (yi (M 76 (5 * s))), some (yi (M 76 ((5 * s) + 3))), some (yi (M 76 ((5 * s) + 4))), some (yi (((M 76 ((5 * s) + 3)) + (M 76 ((5 * s) + 4))) + (M 75 4)))]) (st' := [yi s, yr 75, yi ((M 76 ((5 * s) + 3)) - (M 76 ((5 * s) + 4)))]) (M' := M) (N' := N) rfl ?_
              refine r_virtual (mj := 138) (b := 75) (as := [yi s]) (rest := [yi ((M 76 ((5 * s) + 3)) - (M 76 ((5 * s) + 4)))]) f_141_100 (by decide) rfl m_138 (by decide) (by decide) (by decide) rfl rfl (Nat.le_of_ble_eq_true rfl) (by omega) (m_middle hs0 hs) ?_
              rintro _ _ _ ⟨v100, rfl, hv100, rfl, rfl⟩
              refine r_icmp_ge (pc := 103) f_141_103 (by omega) (by omega) (fun h103 => ?_) (fun h103 => ?_)
              · refine r_run 7 (pc' := 126) (ls' := [some (yr 75), some (yi s), some (yi (M 76 (5 * s))), some (yi (M 76 ((5 * s) + 3))), some (yi (M 76 ((5 * s) + 4))), some (yi ((M 76 ((5 * s) + 3)) - (M 76 ((5 * s) + 4))))]) (st' := [yi 999, yi 0, yi ((M 76 ((5 * s) + 3)) - (M 76 ((5 * s) + 4)))]) (M' := M) (N' := N) rfl ?_
                refine r_static (mj := 113) (as := [yi ((M 76 ((5 * s) + 3)) - (M 76 ((5 * s) + 4))), yi 0, yi 999]) (rest := []) f_141_126 (by decide) rfl m_113 rfl rfl rfl (Nat.le_of_ble_eq_true rfl) (by omega) (m_within (by omega) (by omega) (by omega)) ?_
                rintro _ _ _ ⟨v126, rfl, hv126, rfl, rfl⟩
                refine r_iret m_141 rfl f_141_129 ?_
                exact ⟨_, rfl, by unfold sUpTo; (repeat' split) <;> omega, rfl, rfl⟩
              · refine r_run 2 (pc' := 108) (ls' := [some (yr 75), some (yi s), some (yi (M 76 (5 * s))), some (yi (M 76 ((5 * s) + 3))), some (yi (M 76 ((5 * s) + 4))), some (yi (((M 76 ((5 * s) + 3)) + (M 76 ((5 * s) + 4))) + (M 75 4)))]) (st' := [yi s, yr 75]) (M' := M) (N' := N) rfl ?_
                refine r_virtual (mj := 138) (b := 75) (as := [yi s]) (rest := []) f_141_108 (by decide) rfl m_138 (by decide) (by decide) (by decide) rfl rfl (Nat.le_of_ble_eq_true rfl) (by omega) (m_middle hs0 hs) ?_
                rintro _ _ _ ⟨v108, rfl, hv108, rfl, rfl⟩
                refine r_run 5 (pc' := 126) (ls' := [some (yr 75), some (yi s), some (yi (M 76 (5 * s))), some (yi (M 76 ((5 * s) + 3))), some (yi (M 76 ((5 * s) + 4))), some (yi v108)]) (st' := [yi 999, yi 0, yi v108]) (M' := M) (N' := N) rfl ?_
                refine r_static (mj := 113) (as := [yi v108, yi 0, yi 999]) (rest := []) f_141_126 (by decide) rfl m_113 rfl rfl rfl (Nat.le_of_ble_eq_true rfl) (by omega) (m_within (by omega) (by omega) (by omega)) ?_
                rintro _ _ _ ⟨v126, rfl, hv126, rfl, rfl⟩
                refine r_iret m_141 rfl f_141_129 ?_
                exact ⟨_, rfl, by unfold sUpTo; (repeat' split) <;> omega, rfl, rfl⟩
          · refine r_run 2 (pc' := 83) (ls' := [some (yr 75), some (yi s), some (yi (M 76 (5 * s))), some (yi (M 76 ((5 * s) + 3))), some (yi (M 76 ((5 * s) + 4))), some (yi (((M 76 ((5 * s) + 3)) + (M 76 ((5 * s) + 4))) + (M 75 4)))]) (st' := [yi 4, yi (M 76 (5 * s))]) (M' := M) (N' := N) rfl ?_
            refine r_icmp_ne (pc := 83) f_141_83 (by omega) (by omega) (fun h83 => ?_) (fun h83 => ?_)
            · refine r_run 3 (pc' := 126) (ls' := [some (yr 75), some (yi s), some (yi (M 76 (5 * s))), some (yi (M 76 ((5 * s) + 3))), some (yi (M 76 ((5 * s) + 4))), some (yi (((M 76 ((5 * s) + 3)) + (M 76 ((5 * s) + 4))) + (M 75 4)))]) (st' := [yi 999, yi 0, yi (((M 76 ((5 * s) + 3)) + (M 76 ((5 * s) + 4))) + (M 75 4))]) (M' := M) (N' := N) rfl ?_
              refine r_static (mj := 113) (as := [yi (((M 76 ((5 * s) + 3)) + (M 76 ((5 * s) + 4))) + (M 75 4)), yi 0, yi 999]) (rest := []) f_141_126 (by decide) rfl m_113 rfl rfl rfl (Nat.le_of_ble_eq_true rfl) (by omega) (m_within (by omega) (by omega) (by omega)) ?_
              rintro _ _ _ ⟨v126, rfl, hv126, rfl, rfl⟩
              refine r_iret m_141 rfl f_141_129 ?_
              exact ⟨_, rfl, by unfold sUpTo; (repeat' split) <;> omega, rfl, rfl⟩
            · refine r_run 2 (pc' := 88) (ls' := [some (yr 75), some (yi s), some (yi (M 76 (5 * s))), some (yi (M 76 ((5 * s) + 3))), some (yi (M 76 ((5 * s) + 4))), some (yi (((M 76 ((5 * s) + 3)) + (M 76 ((5 * s) + 4))) + (M 75 4)))]) (st' := [yi s, yr 75]) (M' := M) (N' := N) rfl ?_
              refine r_virtual (mj := 139) (b := 75) (as := [yi s]) (rest := []) f_141_88 (by decide) rfl m_139 (by decide) (by decide) (by decide) rfl rfl (Nat.le_of_ble_eq_true rfl) (by omega) (m_isExact hs0 hs hy) ?_
              rintro _ _ _ ⟨v88, rfl, hv88, rfl, rfl⟩
              refine r_if_ne (pc := 91) f_141_91 (by omega) (fun h91 => ?_) (fun h91 => ?_)
              · refine r_run 2 (pc' := 108) (ls' := [some (yr 75), some (yi s), some (yi (M 76 (5 * s))), some (yi (M 76 ((5 * s) + 3))), some (yi (M 76 ((5 * s) + 4))), some (yi (((M 76 ((5 * s) + 3)) + (M 76 ((5 * s) + 4))) + (M 75 4)))]) (st' := [yi s, yr 75]) (M' := M) (N' := N) rfl ?_
                refine r_virtual (mj := 138) (b := 75) (as := [yi s]) (rest := []) f_141_108 (by decide) rfl m_138 (by decide) (by decide) (by decide) rfl rfl (Nat.le_of_ble_eq_true rfl) (by omega) (m_middle hs0 hs) ?_
                rintro _ _ _ ⟨v108, rfl, hv108, rfl, rfl⟩
                refine r_run 5 (pc' := 126) (ls' := [some (yr 75), some (yi s), some (yi (M 76 (5 * s))), some (yi (M 76 ((5 * s) + 3))), some (yi (M 76 ((5 * s) + 4))), some (yi v108)]) (st' := [yi 999, yi 0, yi v108]) (M' := M) (N' := N) rfl ?_
                refine r_static (mj := 113) (as := [yi v108, yi 0, yi 999]) (rest := []) f_141_126 (by decide) rfl m_113 rfl rfl rfl (Nat.le_of_ble_eq_true rfl) (by omega) (m_within (by omega) (by omega) (by omega)) ?_
                rintro _ _ _ ⟨v126, rfl, hv126, rfl, rfl⟩
                refine r_iret m_141 rfl f_141_129 ?_
                exact ⟨_, rfl, by unfold sUpTo; (repeat' split) <;> omega, rfl, rfl⟩
              · refine r_run 5 (pc' := 100) (ls' := [some (yr 75), some (yi s), some (yi (M 76 (5 * s))), some (yi (M 76 ((5 * s) + 3))), some (yi (M 76 ((5 * s) + 4))), some (yi (((M 76 ((5 * s) + 3)) + (M 76 ((5 * s) + 4))) + (M 75 4)))]) (st' := [yi s, yr 75, yi ((M 76 ((5 * s) + 3)) - (M 76 ((5 * s) + 4)))]) (M' := M) (N' := N) rfl ?_
                refine r_virtual (mj := 138) (b := 75) (as := [yi s]) (rest := [yi ((M 76 ((5 * s) + 3)) - (M 76 ((5 * s) + 4)))]) f_141_100 (by decide) rfl m_138 (by decide) (by decide) (by decide) rfl rfl (Nat.le_of_ble_eq_true rfl) (by omega) (m_middle hs0 hs) ?_
                rintro _ _ _ ⟨v100, rfl, hv100, rfl, rfl⟩
                refine r_icmp_ge (pc := 103) f_141_103 (by omega) (by omega) (fun h103 => ?_) (fun h103 => ?_)
                · refine r_run 7 (pc' := 126) (ls' := [some (yr 75), some (yi s), some (yi (M 76 (5 * s))), some (yi (M 76 ((5 * s) + 3))), some (yi (M 76 ((5 * s) + 4))), some (yi ((M 76 ((5 * s) + 3)) - (M 76 ((5 * s) + 4))))]) (st' := [yi 999, yi 0, yi ((M 76 ((5 * s) + 3)) - (M 76 ((5 * s) + 4)))]) (M' := M) (N' := N) rfl ?_
                  refine r_static (mj := 113) (as := [yi ((M 76 ((5 * s) + 3)) - (M 76 ((5 * s) + 4))), yi 0, yi 999]) (rest := []) f_141_126 (by decide) rfl m_113 rfl rfl rfl (Nat.le_of_ble_eq_true rfl) (by omega) (m_within (by omega) (by omega) (by omega)) ?_
                  rintro _ _ _ ⟨v126, rfl, hv126, rfl, rfl⟩
                  refine r_iret m_141 rfl f_141_129 ?_
                  exact ⟨_, rfl, by unfold sUpTo; (repeat' split) <;> omega, rfl, rfl⟩
                · refine r_run 2 (pc' := 108) (ls' := [some (yr 75), some (yi s), some (yi (M 76 (5 * s))), some (yi (M 76 ((5 * s) + 3))), some (yi (M 76 ((5 * s) + 4))), some (yi (((M 76 ((5 * s) + 3)) + (M 76 ((5 * s) + 4))) + (M 75 4)))]) (st' := [yi s, yr 75]) (M' := M) (N' := N) rfl ?_
                  refine r_virtual (mj := 138) (b := 75) (as := [yi s]) (rest := []) f_141_108 (by decide) rfl m_138 (by decide) (by decide) (by decide) rfl rfl (Nat.le_of_ble_eq_true rfl) (by omega) (m_middle hs0 hs) ?_
                  rintro _ _ _ ⟨v108, rfl, hv108, rfl, rfl⟩
                  refine r_run 5 (pc' := 126) (ls' := [some (yr 75), some (yi s), some (yi (M 76 (5 * s))), some (yi (M 76 ((5 * s) + 3))), some (yi (M 76 ((5 * s) + 4))), some (yi v108)]) (st' := [yi 999, yi 0, yi v108]) (M' := M) (N' := N) rfl ?_
                  refine r_static (mj := 113) (as := [yi v108, yi 0, yi 999]) (rest := []) f_141_126 (by decide) rfl m_113 rfl rfl rfl (Nat.le_of_ble_eq_true rfl) (by omega) (m_within (by omega) (by omega) (by omega)) ?_
                  rintro _ _ _ ⟨v126, rfl, hv126, rfl, rfl⟩
                  refine r_iret m_141 rfl f_141_129 ?_
                  exact ⟨_, rfl, by unfold sUpTo; (repeat' split) <;> omega, rfl, rfl⟩
  · refine r_run 5 (pc' := 48) (ls' := [some (yr 75), some (yi s), some (yi (M 76 (5 * s))), some (yi (M 76 ((5 * s) + 3))), some (yi (M 76 ((5 * s) + 4))), some (yi 999)]) (st' := [yi 1, yi (M 76 (5 * s))]) (M' := M) (N' := N) rfl ?_
    refine r_icmp_eq (pc := 48) f_141_48 (by omega) (by omega) (fun h48 => ?_) (fun h48 => ?_)
    · refine r_run 5 (pc' := 62) (ls' := [some (yr 75), some (yi s), some (yi (M 76 (5 * s))), some (yi (M 76 ((5 * s) + 3))), some (yi (M 76 ((5 * s) + 4))), some (yi 999)]) (st' := [yi 3, yi (M 76 (5 * s)), yi ((M 76 ((5 * s) + 3)) + (M 76 ((5 * s) + 4)))]) (M' := M) (N' := N) rfl ?_
      refine r_icmp_ne (pc := 62) f_141_62 (by omega) (by omega) (fun h62 => ?_) (fun h62 => ?_)
      · refine r_run 5 (pc' := 78) (ls' := [some (yr 75), some (yi s), some (yi (M 76 (5 * s))), some (yi (M 76 ((5 * s) + 3))), some (yi (M 76 ((5 * s) + 4))), some (yi (((M 76 ((5 * s) + 3)) + (M 76 ((5 * s) + 4))) + 0))]) (st' := [yi 2, yi (M 76 (5 * s))]) (M' := M) (N' := N) rfl ?_
        refine r_icmp_eq (pc := 78) f_141_78 (by omega) (by omega) (fun h78 => ?_) (fun h78 => ?_)
        · refine r_run 2 (pc' := 88) (ls' := [some (yr 75), some (yi s), some (yi (M 76 (5 * s))), some (yi (M 76 ((5 * s) + 3))), some (yi (M 76 ((5 * s) + 4))), some (yi (((M 76 ((5 * s) + 3)) + (M 76 ((5 * s) + 4))) + 0))]) (st' := [yi s, yr 75]) (M' := M) (N' := N) rfl ?_
          refine r_virtual (mj := 139) (b := 75) (as := [yi s]) (rest := []) f_141_88 (by decide) rfl m_139 (by decide) (by decide) (by decide) rfl rfl (Nat.le_of_ble_eq_true rfl) (by omega) (m_isExact hs0 hs hy) ?_
          rintro _ _ _ ⟨v88, rfl, hv88, rfl, rfl⟩
          refine r_if_ne (pc := 91) f_141_91 (by omega) (fun h91 => ?_) (fun h91 => ?_)
          · refine r_run 2 (pc' := 108) (ls' := [some (yr 75), some (yi s), some (yi (M 76 (5 * s))), some (yi (M 76 ((5 * s) + 3))), some (yi (M 76 ((5 * s) + 4))), some (yi (((M 76 ((5 * s) + 3)) + (M 76 ((5 * s) + 4))) + 0))]) (st' := [yi s, yr 75]) (M' := M) (N' := N) rfl ?_
            refine r_virtual (mj := 138) (b := 75) (as := [yi s]) (rest := []) f_141_108 (by decide) rfl m_138 (by decide) (by decide) (by decide) rfl rfl (Nat.le_of_ble_eq_true rfl) (by omega) (m_middle hs0 hs) ?_
            rintro _ _ _ ⟨v108, rfl, hv108, rfl, rfl⟩
            refine r_run 5 (pc' := 126) (ls' := [some (yr 75), some (yi s), some (yi (M 76 (5 * s))), some (yi (M 76 ((5 * s) + 3))), some (yi (M 76 ((5 * s) + 4))), some (yi v108)]) (st' := [yi 999, yi 0, yi v108]) (M' := M) (N' := N) rfl ?_
            refine r_static (mj := 113) (as := [yi v108, yi 0, yi 999]) (rest := []) f_141_126 (by decide) rfl m_113 rfl rfl rfl (Nat.le_of_ble_eq_true rfl) (by omega) (m_within (by omega) (by omega) (by omega)) ?_
            rintro _ _ _ ⟨v126, rfl, hv126, rfl, rfl⟩
            refine r_iret m_141 rfl f_141_129 ?_
            exact ⟨_, rfl, by unfold sUpTo; (repeat' split) <;> omega, rfl, rfl⟩
          · refine r_run 5 (pc' := 100) (ls' := [some (yr 75), some (yi s), some (yi (M 76 (5 * s))), some (yi (M 76 ((5 * s) + 3))), some (yi (M 76 ((5 * s) + 4))), some (yi (((M 76 ((5 * s) + 3)) + (M 76 ((5 * s) + 4))) + 0))]) (st' := [yi s, yr 75, yi ((M 76 ((5 * s) + 3)) - (M 76 ((5 * s) + 4)))]) (M' := M) (N' := N) rfl ?_
            refine r_virtual (mj := 138) (b := 75) (as := [yi s]) (rest := [yi ((M 76 ((5 * s) + 3)) - (M 76 ((5 * s) + 4)))]) f_141_100 (by decide) rfl m_138 (by decide) (by decide) (by decide) rfl rfl (Nat.le_of_ble_eq_true rfl) (by omega) (m_middle hs0 hs) ?_
            rintro _ _ _ ⟨v100, rfl, hv100, rfl, rfl⟩
            refine r_icmp_ge (pc := 103) f_141_103 (by omega) (by omega) (fun h103 => ?_) (fun h103 => ?_)
            · refine r_run 7 (pc' := 126) (ls' := [some (yr 75), some (yi s), some (yi (M 76 (5 * s))), some (yi (M 76 ((5 * s) + 3))), some (yi (M 76 ((5 * s) + 4))), some (yi ((M 76 ((5 * s) + 3)) - (M 76 ((5 * s) + 4))))]) (st' := [yi 999, yi 0, yi ((M 76 ((5 * s) + 3)) - (M 76 ((5 * s) + 4)))]) (M' := M) (N' := N) rfl ?_
              refine r_static (mj := 113) (as := [yi ((M 76 ((5 * s) + 3)) - (M 76 ((5 * s) + 4))), yi 0, yi 999]) (rest := []) f_141_126 (by decide) rfl m_113 rfl rfl rfl (Nat.le_of_ble_eq_true rfl) (by omega) (m_within (by omega) (by omega) (by omega)) ?_
              rintro _ _ _ ⟨v126, rfl, hv126, rfl, rfl⟩
              refine r_iret m_141 rfl f_141_129 ?_
              exact ⟨_, rfl, by unfold sUpTo; (repeat' split) <;> omega, rfl, rfl⟩
            · refine r_run 2 (pc' := 108) (ls' := [some (yr 75), some (yi s), some (yi (M 76 (5 * s))), some (yi (M 76 ((5 * s) + 3))), some (yi (M 76 ((5 * s) + 4))), some (yi (((M 76 ((5 * s) + 3)) + (M 76 ((5 * s) + 4))) + 0))]) (st' := [yi s, yr 75]) (M' := M) (N' := N) rfl ?_
              refine r_virtual (mj := 138) (b := 75) (as := [yi s]) (rest := []) f_141_108 (by decide) rfl m_138 (by decide) (by decide) (by decide) rfl rfl (Nat.le_of_ble_eq_true rfl) (by omega) (m_middle hs0 hs) ?_
              rintro _ _ _ ⟨v108, rfl, hv108, rfl, rfl⟩
              refine r_run 5 (pc' := 126) (ls' := [some (yr 75), some (yi s), some (yi (M 76 (5 * s))), some (yi (M 76 ((5 * s) + 3))), some (yi (M 76 ((5 * s) + 4))), some (yi v108)]) (st' := [yi 999, yi 0, yi v108]) (M' := M) (N' := N) rfl ?_
              refine r_static (mj := 113) (as := [yi v108, yi 0, yi 999]) (rest := []) f_141_126 (by decide) rfl m_113 rfl rfl rfl (Nat.le_of_ble_eq_true rfl) (by omega) (m_within (by omega) (by omega) (by omega)) ?_
              rintro _ _ _ ⟨v126, rfl, hv126, rfl, rfl⟩
              refine r_iret m_141 rfl f_141_129 ?_
              exact ⟨_, rfl, by unfold sUpTo; (repeat' split) <;> omega, rfl, rfl⟩
        · refine r_run 2 (pc' := 83) (ls' := [some (yr 75), some (yi s), some (yi (M 76 (5 * s))), some (yi (M 76 ((5 * s) + 3))), some (yi (M 76 ((5 * s) + 4))), some (yi (((M 76 ((5 * s) + 3)) + (M 76 ((5 * s) + 4))) + 0))]) (st' := [yi 4, yi (M 76 (5 * s))]) (M' := M) (N' := N) rfl ?_
          refine r_icmp_ne (pc := 83) f_141_83 (by omega) (by omega) (fun h83 => ?_) (fun h83 => ?_)
          · refine r_run 3 (pc' := 126) (ls' := [some (yr 75), some (yi s), some (yi (M 76 (5 * s))), some (yi (M 76 ((5 * s) + 3))), some (yi (M 76 ((5 * s) + 4))), some (yi (((M 76 ((5 * s) + 3)) + (M 76 ((5 * s) + 4))) + 0))]) (st' := [yi 999, yi 0, yi (((M 76 ((5 * s) + 3)) + (M 76 ((5 * s) + 4))) + 0)]) (M' := M) (N' := N) rfl ?_
            refine r_static (mj := 113) (as := [yi (((M 76 ((5 * s) + 3)) + (M 76 ((5 * s) + 4))) + 0), yi 0, yi 999]) (rest := []) f_141_126 (by decide) rfl m_113 rfl rfl rfl (Nat.le_of_ble_eq_true rfl) (by omega) (m_within (by omega) (by omega) (by omega)) ?_
            rintro _ _ _ ⟨v126, rfl, hv126, rfl, rfl⟩
            refine r_iret m_141 rfl f_141_129 ?_
            exact ⟨_, rfl, by unfold sUpTo; (repeat' split) <;> omega, rfl, rfl⟩
          · refine r_run 2 (pc' := 88) (ls' := [some (yr 75), some (yi s), some (yi (M 76 (5 * s))), some (yi (M 76 ((5 * s) + 3))), some (yi (M 76 ((5 * s) + 4))), some (yi (((M 76 ((5 * s) + 3)) + (M 76 ((5 * s) + 4))) + 0))]) (st' := [yi s, yr 75]) (M' := M) (N' := N) rfl ?_
            refine r_virtual (mj := 139) (b := 75) (as := [yi s]) (rest := []) f_141_88 (by decide) rfl m_139 (by decide) (by decide) (by decide) rfl rfl (Nat.le_of_ble_eq_true rfl) (by omega) (m_isExact hs0 hs hy) ?_
            rintro _ _ _ ⟨v88, rfl, hv88, rfl, rfl⟩
            refine r_if_ne (pc := 91) f_141_91 (by omega) (fun h91 => ?_) (fun h91 => ?_)
            · refine r_run 2 (pc' := 108) (ls' := [some (yr 75), some (yi s), some (yi (M 76 (5 * s))), some (yi (M 76 ((5 * s) + 3))), some (yi (M 76 ((5 * s) + 4))), some (yi (((M 76 ((5 * s) + 3)) + (M 76 ((5 * s) + 4))) + 0))]) (st' := [yi s, yr 75]) (M' := M) (N' := N) rfl ?_
              refine r_virtual (mj := 138) (b := 75) (as := [yi s]) (rest := []) f_141_108 (by decide) rfl m_138 (by decide) (by decide) (by decide) rfl rfl (Nat.le_of_ble_eq_true rfl) (by omega) (m_middle hs0 hs) ?_
              rintro _ _ _ ⟨v108, rfl, hv108, rfl, rfl⟩
              refine r_run 5 (pc' := 126) (ls' := [some (yr 75), some (yi s), some (yi (M 76 (5 * s))), some (yi (M 76 ((5 * s) + 3))), some (yi (M 76 ((5 * s) + 4))), some (yi v108)]) (st' := [yi 999, yi 0, yi v108]) (M' := M) (N' := N) rfl ?_
              refine r_static (mj := 113) (as := [yi v108, yi 0, yi 999]) (rest := []) f_141_126 (by decide) rfl m_113 rfl rfl rfl (Nat.le_of_ble_eq_true rfl) (by omega) (m_within (by omega) (by omega) (by omega)) ?_
              rintro _ _ _ ⟨v126, rfl, hv126, rfl, rfl⟩
              refine r_iret m_141 rfl f_141_129 ?_
              exact ⟨_, rfl, by unfold sUpTo; (repeat' split) <;> omega, rfl, rfl⟩
            · refine r_run 5 (pc' := 100) (ls' := [some (yr 75), some (yi s), some (yi (M 76 (5 * s))), some (yi (M 76 ((5 * s) + 3))), some (yi (M 76 ((5 * s) + 4))), some (yi (((M 76 ((5 * s) + 3)) + (M 76 ((5 * s) + 4))) + 0))]) (st' := [yi s, yr 75, yi ((M 76 ((5 * s) + 3)) - (M 76 ((5 * s) + 4)))]) (M' := M) (N' := N) rfl ?_
              refine r_virtual (mj := 138) (b := 75) (as := [yi s]) (rest := [yi ((M 76 ((5 * s) + 3)) - (M 76 ((5 * s) + 4)))]) f_141_100 (by decide) rfl m_138 (by decide) (by decide) (by decide) rfl rfl (Nat.le_of_ble_eq_true rfl) (by omega) (m_middle hs0 hs) ?_
              rintro _ _ _ ⟨v100, rfl, hv100, rfl, rfl⟩
              refine r_icmp_ge (pc := 103) f_141_103 (by omega) (by omega) (fun h103 => ?_) (fun h103 => ?_)
              · refine r_run 7 (pc' := 126) (ls' := [some (yr 75), some (yi s), some (yi (M 76 (5 * s))), some (yi (M 76 ((5 * s) + 3))), some (yi (M 76 ((5 * s) + 4))), some (yi ((M 76 ((5 * s) + 3)) - (M 76 ((5 * s) + 4))))]) (st' := [yi 999, yi 0, yi ((M 76 ((5 * s) + 3)) - (M 76 ((5 * s) + 4)))]) (M' := M) (N' := N) rfl ?_
                refine r_static (mj := 113) (as := [yi ((M 76 ((5 * s) + 3)) - (M 76 ((5 * s) + 4))), yi 0, yi 999]) (rest := []) f_141_126 (by decide) rfl m_113 rfl rfl rfl (Nat.le_of_ble_eq_true rfl) (by omega) (m_within (by omega) (by omega) (by omega)) ?_
                rintro _ _ _ ⟨v126, rfl, hv126, rfl, rfl⟩
                refine r_iret m_141 rfl f_141_129 ?_
                exact ⟨_, rfl, by unfold sUpTo; (repeat' split) <;> omega, rfl, rfl⟩
              · refine r_run 2 (pc' := 108) (ls' := [some (yr 75), some (yi s), some (yi (M 76 (5 * s))), some (yi (M 76 ((5 * s) + 3))), some (yi (M 76 ((5 * s) + 4))), some (yi (((M 76 ((5 * s) + 3)) + (M 76 ((5 * s) + 4))) + 0))]) (st' := [yi s, yr 75]) (M' := M) (N' := N) rfl ?_
                refine r_virtual (mj := 138) (b := 75) (as := [yi s]) (rest := []) f_141_108 (by decide) rfl m_138 (by decide) (by decide) (by decide) rfl rfl (Nat.le_of_ble_eq_true rfl) (by omega) (m_middle hs0 hs) ?_
                rintro _ _ _ ⟨v108, rfl, hv108, rfl, rfl⟩
                refine r_run 5 (pc' := 126) (ls' := [some (yr 75), some (yi s), some (yi (M 76 (5 * s))), some (yi (M 76 ((5 * s) + 3))), some (yi (M 76 ((5 * s) + 4))), some (yi v108)]) (st' := [yi 999, yi 0, yi v108]) (M' := M) (N' := N) rfl ?_
                refine r_static (mj := 113) (as := [yi v108, yi 0, yi 999]) (rest := []) f_141_126 (by decide) rfl m_113 rfl rfl rfl (Nat.le_of_ble_eq_true rfl) (by omega) (m_within (by omega) (by omega) (by omega)) ?_
                rintro _ _ _ ⟨v126, rfl, hv126, rfl, rfl⟩
                refine r_iret m_141 rfl f_141_129 ?_
                exact ⟨_, rfl, by unfold sUpTo; (repeat' split) <;> omega, rfl, rfl⟩
      · refine r_run 7 (pc' := 78) (ls' := [some (yr 75), some (yi s), some (yi (M 76 (5 * s))), some (yi (M 76 ((5 * s) + 3))), some (yi (M 76 ((5 * s) + 4))), some (yi (((M 76 ((5 * s) + 3)) + (M 76 ((5 * s) + 4))) + (M 75 4)))]) (st' := [yi 2, yi (M 76 (5 * s))]) (M' := M) (N' := N) rfl ?_
        refine r_icmp_eq (pc := 78) f_141_78 (by omega) (by omega) (fun h78 => ?_) (fun h78 => ?_)
        · refine r_run 2 (pc' := 88) (ls' := [some (yr 75), some (yi s), some (yi (M 76 (5 * s))), some (yi (M 76 ((5 * s) + 3))), some (yi (M 76 ((5 * s) + 4))), some (yi (((M 76 ((5 * s) + 3)) + (M 76 ((5 * s) + 4))) + (M 75 4)))]) (st' := [yi s, yr 75]) (M' := M) (N' := N) rfl ?_
          refine r_virtual (mj := 139) (b := 75) (as := [yi s]) (rest := []) f_141_88 (by decide) rfl m_139 (by decide) (by decide) (by decide) rfl rfl (Nat.le_of_ble_eq_true rfl) (by omega) (m_isExact hs0 hs hy) ?_
          rintro _ _ _ ⟨v88, rfl, hv88, rfl, rfl⟩
          refine r_if_ne (pc := 91) f_141_91 (by omega) (fun h91 => ?_) (fun h91 => ?_)
          · refine r_run 2 (pc' := 108) (ls' := [some (yr 75), some (yi s), some (yi (M 76 (5 * s))), some (yi (M 76 ((5 * s) + 3))), some (yi (M 76 ((5 * s) + 4))), some (yi (((M 76 ((5 * s) + 3)) + (M 76 ((5 * s) + 4))) + (M 75 4)))]) (st' := [yi s, yr 75]) (M' := M) (N' := N) rfl ?_
            refine r_virtual (mj := 138) (b := 75) (as := [yi s]) (rest := []) f_141_108 (by decide) rfl m_138 (by decide) (by decide) (by decide) rfl rfl (Nat.le_of_ble_eq_true rfl) (by omega) (m_middle hs0 hs) ?_
            rintro _ _ _ ⟨v108, rfl, hv108, rfl, rfl⟩
            refine r_run 5 (pc' := 126) (ls' := [some (yr 75), some (yi s), some (yi (M 76 (5 * s))), some (yi (M 76 ((5 * s) + 3))), some (yi (M 76 ((5 * s) + 4))), some (yi v108)]) (st' := [yi 999, yi 0, yi v108]) (M' := M) (N' := N) rfl ?_
            refine r_static (mj := 113) (as := [yi v108, yi 0, yi 999]) (rest := []) f_141_126 (by decide) rfl m_113 rfl rfl rfl (Nat.le_of_ble_eq_true rfl) (by omega) (m_within (by omega) (by omega) (by omega)) ?_
            rintro _ _ _ ⟨v126, rfl, hv126, rfl, rfl⟩
            refine r_iret m_141 rfl f_141_129 ?_
            exact ⟨_, rfl, by unfold sUpTo; (repeat' split) <;> omega, rfl, rfl⟩
          · refine r_run 5 (pc' := 100) (ls' := [some (yr 75), some (yi s), some (yi (M 76 (5 * s))), some (yi (M 76 ((5 * s) + 3))), some (yi (M 76 ((5 * s) + 4))), some (yi (((M 76 ((5 * s) + 3)) + (M 76 ((5 * s) + 4))) + (M 75 4)))]) (st' := [yi s, yr 75, yi ((M 76 ((5 * s) + 3)) - (M 76 ((5 * s) + 4)))]) (M' := M) (N' := N) rfl ?_
            refine r_virtual (mj := 138) (b := 75) (as := [yi s]) (rest := [yi ((M 76 ((5 * s) + 3)) - (M 76 ((5 * s) + 4)))]) f_141_100 (by decide) rfl m_138 (by decide) (by decide) (by decide) rfl rfl (Nat.le_of_ble_eq_true rfl) (by omega) (m_middle hs0 hs) ?_
            rintro _ _ _ ⟨v100, rfl, hv100, rfl, rfl⟩
            refine r_icmp_ge (pc := 103) f_141_103 (by omega) (by omega) (fun h103 => ?_) (fun h103 => ?_)
            · refine r_run 7 (pc' := 126) (ls' := [some (yr 75), some (yi s), some (yi (M 76 (5 * s))), some (yi (M 76 ((5 * s) + 3))), some (yi (M 76 ((5 * s) + 4))), some (yi ((M 76 ((5 * s) + 3)) - (M 76 ((5 * s) + 4))))]) (st' := [yi 999, yi 0, yi ((M 76 ((5 * s) + 3)) - (M 76 ((5 * s) + 4)))]) (M' := M) (N' := N) rfl ?_
              refine r_static (mj := 113) (as := [yi ((M 76 ((5 * s) + 3)) - (M 76 ((5 * s) + 4))), yi 0, yi 999]) (rest := []) f_141_126 (by decide) rfl m_113 rfl rfl rfl (Nat.le_of_ble_eq_true rfl) (by omega) (m_within (by omega) (by omega) (by omega)) ?_
              rintro _ _ _ ⟨v126, rfl, hv126, rfl, rfl⟩
              refine r_iret m_141 rfl f_141_129 ?_
              exact ⟨_, rfl, by unfold sUpTo; (repeat' split) <;> omega, rfl, rfl⟩
            · refine r_run 2 (pc' := 108) (ls' := [some (yr 75), some (yi s), some (yi (M 76 (5 * s))), some (yi (M 76 ((5 * s) + 3))), some (yi (M 76 ((5 * s) + 4))), some (yi (((M 76 ((5 * s) + 3)) + (M 76 ((5 * s) + 4))) + (M 75 4)))]) (st' := [yi s, yr 75]) (M' := M) (N' := N) rfl ?_
              refine r_virtual (mj := 138) (b := 75) (as := [yi s]) (rest := []) f_141_108 (by decide) rfl m_138 (by decide) (by decide) (by decide) rfl rfl (Nat.le_of_ble_eq_true rfl) (by omega) (m_middle hs0 hs) ?_
              rintro _ _ _ ⟨v108, rfl, hv108, rfl, rfl⟩
              refine r_run 5 (pc' := 126) (ls' := [some (yr 75), some (yi s), some (yi (M 76 (5 * s))), some (yi (M 76 ((5 * s) + 3))), some (yi (M 76 ((5 * s) + 4))), some (yi v108)]) (st' := [yi 999, yi 0, yi v108]) (M' := M) (N' := N) rfl ?_
              refine r_static (mj := 113) (as := [yi v108, yi 0, yi 999]) (rest := []) f_141_126 (by decide) rfl m_113 rfl rfl rfl (Nat.le_of_ble_eq_true rfl) (by omega) (m_within (by omega) (by omega) (by omega)) ?_
              rintro _ _ _ ⟨v126, rfl, hv126, rfl, rfl⟩
              refine r_iret m_141 rfl f_141_129 ?_
              exact ⟨_, rfl, by unfold sUpTo; (repeat' split) <;> omega, rfl, rfl⟩
        · refine r_run 2 (pc' := 83) (ls' := [some (yr 75), some (yi s), some (yi (M 76 (5 * s))), some (yi (M 76 ((5 * s) + 3))), some (yi (M 76 ((5 * s) + 4))), some (yi (((M 76 ((5 * s) + 3)) + (M 76 ((5 * s) + 4))) + (M 75 4)))]) (st' := [yi 4, yi (M 76 (5 * s))]) (M' := M) (N' := N) rfl ?_
          refine r_icmp_ne (pc := 83) f_141_83 (by omega) (by omega) (fun h83 => ?_) (fun h83 => ?_)
          · refine r_run 3 (pc' := 126) (ls' := [some (yr 75), some (yi s), some (yi (M 76 (5 * s))), some (yi (M 76 ((5 * s) + 3))), some (yi (M 76 ((5 * s) + 4))), some (yi (((M 76 ((5 * s) + 3)) + (M 76 ((5 * s) + 4))) + (M 75 4)))]) (st' := [yi 999, yi 0, yi (((M 76 ((5 * s) + 3)) + (M 76 ((5 * s) + 4))) + (M 75 4))]) (M' := M) (N' := N) rfl ?_
            refine r_static (mj := 113) (as := [yi (((M 76 ((5 * s) + 3)) + (M 76 ((5 * s) + 4))) + (M 75 4)), yi 0, yi 999]) (rest := []) f_141_126 (by decide) rfl m_113 rfl rfl rfl (Nat.le_of_ble_eq_true rfl) (by omega) (m_within (by omega) (by omega) (by omega)) ?_
            rintro _ _ _ ⟨v126, rfl, hv126, rfl, rfl⟩
            refine r_iret m_141 rfl f_141_129 ?_
            exact ⟨_, rfl, by unfold sUpTo; (repeat' split) <;> omega, rfl, rfl⟩
          · refine r_run 2 (pc' := 88) (ls' := [some (yr 75), some (yi s), some (yi (M 76 (5 * s))), some (yi (M 76 ((5 * s) + 3))), some (yi (M 76 ((5 * s) + 4))), some (yi (((M 76 ((5 * s) + 3)) + (M 76 ((5 * s) + 4))) + (M 75 4)))]) (st' := [yi s, yr 75]) (M' := M) (N' := N) rfl ?_
            refine r_virtual (mj := 139) (b := 75) (as := [yi s]) (rest := []) f_141_88 (by decide) rfl m_139 (by decide) (by decide) (by decide) rfl rfl (Nat.le_of_ble_eq_true rfl) (by omega) (m_isExact hs0 hs hy) ?_
            rintro _ _ _ ⟨v88, rfl, hv88, rfl, rfl⟩
            refine r_if_ne (pc := 91) f_141_91 (by omega) (fun h91 => ?_) (fun h91 => ?_)
            · refine r_run 2 (pc' := 108) (ls' := [some (yr 75), some (yi s), some (yi (M 76 (5 * s))), some (yi (M 76 ((5 * s) + 3))), some (yi (M 76 ((5 * s) + 4))), some (yi (((M 76 ((5 * s) + 3)) + (M 76 ((5 * s) + 4))) + (M 75 4)))]) (st' := [yi s, yr 75]) (M' := M) (N' := N) rfl ?_
              refine r_virtual (mj := 138) (b := 75) (as := [yi s]) (rest := []) f_141_108 (by decide) rfl m_138 (by decide) (by decide) (by decide) rfl rfl (Nat.le_of_ble_eq_true rfl) (by omega) (m_middle hs0 hs) ?_
              rintro _ _ _ ⟨v108, rfl, hv108, rfl, rfl⟩
              refine r_run 5 (pc' := 126) (ls' := [some (yr 75), some (yi s), some (yi (M 76 (5 * s))), some (yi (M 76 ((5 * s) + 3))), some (yi (M 76 ((5 * s) + 4))), some (yi v108)]) (st' := [yi 999, yi 0, yi v108]) (M' := M) (N' := N) rfl ?_
              refine r_static (mj := 113) (as := [yi v108, yi 0, yi 999]) (rest := []) f_141_126 (by decide) rfl m_113 rfl rfl rfl (Nat.le_of_ble_eq_true rfl) (by omega) (m_within (by omega) (by omega) (by omega)) ?_
              rintro _ _ _ ⟨v126, rfl, hv126, rfl, rfl⟩
              refine r_iret m_141 rfl f_141_129 ?_
              exact ⟨_, rfl, by unfold sUpTo; (repeat' split) <;> omega, rfl, rfl⟩
            · refine r_run 5 (pc' := 100) (ls' := [some (yr 75), some (yi s), some (yi (M 76 (5 * s))), some (yi (M 76 ((5 * s) + 3))), some (yi (M 76 ((5 * s) + 4))), some (yi (((M 76 ((5 * s) + 3)) + (M 76 ((5 * s) + 4))) + (M 75 4)))]) (st' := [yi s, yr 75, yi ((M 76 ((5 * s) + 3)) - (M 76 ((5 * s) + 4)))]) (M' := M) (N' := N) rfl ?_
              refine r_virtual (mj := 138) (b := 75) (as := [yi s]) (rest := [yi ((M 76 ((5 * s) + 3)) - (M 76 ((5 * s) + 4)))]) f_141_100 (by decide) rfl m_138 (by decide) (by decide) (by decide) rfl rfl (Nat.le_of_ble_eq_true rfl) (by omega) (m_middle hs0 hs) ?_
              rintro _ _ _ ⟨v100, rfl, hv100, rfl, rfl⟩
              refine r_icmp_ge (pc := 103) f_141_103 (by omega) (by omega) (fun h103 => ?_) (fun h103 => ?_)
              · refine r_run 7 (pc' := 126) (ls' := [some (yr 75), some (yi s), some (yi (M 76 (5 * s))), some (yi (M 76 ((5 * s) + 3))), some (yi (M 76 ((5 * s) + 4))), some (yi ((M 76 ((5 * s) + 3)) - (M 76 ((5 * s) + 4))))]) (st' := [yi 999, yi 0, yi ((M 76 ((5 * s) + 3)) - (M 76 ((5 * s) + 4)))]) (M' := M) (N' := N) rfl ?_
                refine r_static (mj := 113) (as := [yi ((M 76 ((5 * s) + 3)) - (M 76 ((5 * s) + 4))), yi 0, yi 999]) (rest := []) f_141_126 (by decide) rfl m_113 rfl rfl rfl (Nat.le_of_ble_eq_true rfl) (by omega) (m_within (by omega) (by omega) (by omega)) ?_
                rintro _ _ _ ⟨v126, rfl, hv126, rfl, rfl⟩
                refine r_iret m_141 rfl f_141_129 ?_
                exact ⟨_, rfl, by unfold sUpTo; (repeat' split) <;> omega, rfl, rfl⟩
              · refine r_run 2 (pc' := 108) (ls' := [some (yr 75), some (yi s), some (yi (M 76 (5 * s))), some (yi (M 76 ((5 * s) + 3))), some (yi (M 76 ((5 * s) + 4))), some (yi (((M 76 ((5 * s) + 3)) + (M 76 ((5 * s) + 4))) + (M 75 4)))]) (st' := [yi s, yr 75]) (M' := M) (N' := N) rfl ?_
                refine r_virtual (mj := 138) (b := 75) (as := [yi s]) (rest := []) f_141_108 (by decide) rfl m_138 (by decide) (by decide) (by decide) rfl rfl (Nat.le_of_ble_eq_true rfl) (by omega) (m_middle hs0 hs) ?_
                rintro _ _ _ ⟨v108, rfl, hv108, rfl, rfl⟩
                refine r_run 5 (pc' := 126) (ls' := [some (yr 75), some (yi s), some (yi (M 76 (5 * s))), some (yi (M 76 ((5 * s) + 3))), some (yi (M 76 ((5 * s) + 4))), some (yi v108)]) (st' := [yi 999, yi 0, yi v108]) (M' := M) (N' := N) rfl ?_
                refine r_static (mj := 113) (as := [yi v108, yi 0, yi 999]) (rest := []) f_141_126 (by decide) rfl m_113 rfl rfl rfl (Nat.le_of_ble_eq_true rfl) (by omega) (m_within (by omega) (by omega) (by omega)) ?_
                rintro _ _ _ ⟨v126, rfl, hv126, rfl, rfl⟩
                refine r_iret m_141 rfl f_141_129 ?_
                exact ⟨_, rfl, by unfold sUpTo; (repeat' split) <;> omega, rfl, rfl⟩
    · refine r_run 2 (pc' := 53) (ls' := [some (yr 75), some (yi s), some (yi (M 76 (5 * s))), some (yi (M 76 ((5 * s) + 3))), some (yi (M 76 ((5 * s) + 4))), some (yi 999)]) (st' := [yi 3, yi (M 76 (5 * s))]) (M' := M) (N' := N) rfl ?_
      refine r_icmp_ne (pc := 53) f_141_53 (by omega) (by omega) (fun h53 => ?_) (fun h53 => ?_)
      · refine r_run 2 (pc' := 78) (ls' := [some (yr 75), some (yi s), some (yi (M 76 (5 * s))), some (yi (M 76 ((5 * s) + 3))), some (yi (M 76 ((5 * s) + 4))), some (yi 999)]) (st' := [yi 2, yi (M 76 (5 * s))]) (M' := M) (N' := N) rfl ?_
        refine r_icmp_eq (pc := 78) f_141_78 (by omega) (by omega) (fun h78 => ?_) (fun h78 => ?_)
        · refine r_run 2 (pc' := 88) (ls' := [some (yr 75), some (yi s), some (yi (M 76 (5 * s))), some (yi (M 76 ((5 * s) + 3))), some (yi (M 76 ((5 * s) + 4))), some (yi 999)]) (st' := [yi s, yr 75]) (M' := M) (N' := N) rfl ?_
          refine r_virtual (mj := 139) (b := 75) (as := [yi s]) (rest := []) f_141_88 (by decide) rfl m_139 (by decide) (by decide) (by decide) rfl rfl (Nat.le_of_ble_eq_true rfl) (by omega) (m_isExact hs0 hs hy) ?_
          rintro _ _ _ ⟨v88, rfl, hv88, rfl, rfl⟩
          refine r_if_ne (pc := 91) f_141_91 (by omega) (fun h91 => ?_) (fun h91 => ?_)
          · refine r_run 2 (pc' := 108) (ls' := [some (yr 75), some (yi s), some (yi (M 76 (5 * s))), some (yi (M 76 ((5 * s) + 3))), some (yi (M 76 ((5 * s) + 4))), some (yi 999)]) (st' := [yi s, yr 75]) (M' := M) (N' := N) rfl ?_
            refine r_virtual (mj := 138) (b := 75) (as := [yi s]) (rest := []) f_141_108 (by decide) rfl m_138 (by decide) (by decide) (by decide) rfl rfl (Nat.le_of_ble_eq_true rfl) (by omega) (m_middle hs0 hs) ?_
            rintro _ _ _ ⟨v108, rfl, hv108, rfl, rfl⟩
            refine r_run 5 (pc' := 126) (ls' := [some (yr 75), some (yi s), some (yi (M 76 (5 * s))), some (yi (M 76 ((5 * s) + 3))), some (yi (M 76 ((5 * s) + 4))), some (yi v108)]) (st' := [yi 999, yi 0, yi v108]) (M' := M) (N' := N) rfl ?_
            refine r_static (mj := 113) (as := [yi v108, yi 0, yi 999]) (rest := []) f_141_126 (by decide) rfl m_113 rfl rfl rfl (Nat.le_of_ble_eq_true rfl) (by omega) (m_within (by omega) (by omega) (by omega)) ?_
            rintro _ _ _ ⟨v126, rfl, hv126, rfl, rfl⟩
            refine r_iret m_141 rfl f_141_129 ?_
            exact ⟨_, rfl, by unfold sUpTo; (repeat' split) <;> omega, rfl, rfl⟩
          · refine r_run 5 (pc' := 100) (ls' := [some (yr 75), some (yi s), some (yi (M 76 (5 * s))), some (yi (M 76 ((5 * s) + 3))), some (yi (M 76 ((5 * s) + 4))), some (yi 999)]) (st' := [yi s, yr 75, yi ((M 76 ((5 * s) + 3)) - (M 76 ((5 * s) + 4)))]) (M' := M) (N' := N) rfl ?_
            refine r_virtual (mj := 138) (b := 75) (as := [yi s]) (rest := [yi ((M 76 ((5 * s) + 3)) - (M 76 ((5 * s) + 4)))]) f_141_100 (by decide) rfl m_138 (by decide) (by decide) (by decide) rfl rfl (Nat.le_of_ble_eq_true rfl) (by omega) (m_middle hs0 hs) ?_
            rintro _ _ _ ⟨v100, rfl, hv100, rfl, rfl⟩
            refine r_icmp_ge (pc := 103) f_141_103 (by omega) (by omega) (fun h103 => ?_) (fun h103 => ?_)
            · refine r_run 7 (pc' := 126) (ls' := [some (yr 75), some (yi s), some (yi (M 76 (5 * s))), some (yi (M 76 ((5 * s) + 3))), some (yi (M 76 ((5 * s) + 4))), some (yi ((M 76 ((5 * s) + 3)) - (M 76 ((5 * s) + 4))))]) (st' := [yi 999, yi 0, yi ((M 76 ((5 * s) + 3)) - (M 76 ((5 * s) + 4)))]) (M' := M) (N' := N) rfl ?_
              refine r_static (mj := 113) (as := [yi ((M 76 ((5 * s) + 3)) - (M 76 ((5 * s) + 4))), yi 0, yi 999]) (rest := []) f_141_126 (by decide) rfl m_113 rfl rfl rfl (Nat.le_of_ble_eq_true rfl) (by omega) (m_within (by omega) (by omega) (by omega)) ?_
              rintro _ _ _ ⟨v126, rfl, hv126, rfl, rfl⟩
              refine r_iret m_141 rfl f_141_129 ?_
              exact ⟨_, rfl, by unfold sUpTo; (repeat' split) <;> omega, rfl, rfl⟩
            · refine r_run 2 (pc' := 108) (ls' := [some (yr 75), some (yi s), some (yi (M 76 (5 * s))), some (yi (M 76 ((5 * s) + 3))), some (yi (M 76 ((5 * s) + 4))), some (yi 999)]) (st' := [yi s, yr 75]) (M' := M) (N' := N) rfl ?_
              refine r_virtual (mj := 138) (b := 75) (as := [yi s]) (rest := []) f_141_108 (by decide) rfl m_138 (by decide) (by decide) (by decide) rfl rfl (Nat.le_of_ble_eq_true rfl) (by omega) (m_middle hs0 hs) ?_
              rintro _ _ _ ⟨v108, rfl, hv108, rfl, rfl⟩
              refine r_run 5 (pc' := 126) (ls' := [some (yr 75), some (yi s), some (yi (M 76 (5 * s))), some (yi (M 76 ((5 * s) + 3))), some (yi (M 76 ((5 * s) + 4))), some (yi v108)]) (st' := [yi 999, yi 0, yi v108]) (M' := M) (N' := N) rfl ?_
              refine r_static (mj := 113) (as := [yi v108, yi 0, yi 999]) (rest := []) f_141_126 (by decide) rfl m_113 rfl rfl rfl (Nat.le_of_ble_eq_true rfl) (by omega) (m_within (by omega) (by omega) (by omega)) ?_
              rintro _ _ _ ⟨v126, rfl, hv126, rfl, rfl⟩
              refine r_iret m_141 rfl f_141_129 ?_
              exact ⟨_, rfl, by unfold sUpTo; (repeat' split) <;> omega, rfl, rfl⟩
        · refine r_run 2 (pc' := 83) (ls' := [some (yr 75), some (yi s), some (yi (M 76 (5 * s))), some (yi (M 76 ((5 * s) + 3))), some (yi (M 76 ((5 * s) + 4))), some (yi 999)]) (st' := [yi 4, yi (M 76 (5 * s))]) (M' := M) (N' := N) rfl ?_
          refine r_icmp_ne (pc := 83) f_141_83 (by omega) (by omega) (fun h83 => ?_) (fun h83 => ?_)
          · refine r_run 3 (pc' := 126) (ls' := [some (yr 75), some (yi s), some (yi (M 76 (5 * s))), some (yi (M 76 ((5 * s) + 3))), some (yi (M 76 ((5 * s) + 4))), some (yi 999)]) (st' := [yi 999, yi 0, yi 999]) (M' := M) (N' := N) rfl ?_
            refine r_static (mj := 113) (as := [yi 999, yi 0, yi 999]) (rest := []) f_141_126 (by decide) rfl m_113 rfl rfl rfl (Nat.le_of_ble_eq_true rfl) (by omega) (m_within (by omega) (by omega) (by omega)) ?_
            rintro _ _ _ ⟨v126, rfl, hv126, rfl, rfl⟩
            refine r_iret m_141 rfl f_141_129 ?_
            exact ⟨_, rfl, by unfold sUpTo; (repeat' split) <;> omega, rfl, rfl⟩
          · refine r_run 2 (pc' := 88) (ls' := [some (yr 75), some (yi s), some (yi (M 76 (5 * s))), some (yi (M 76 ((5 * s) + 3))), some (yi (M 76 ((5 * s) + 4))), some (yi 999)]) (st' := [yi s, yr 75]) (M' := M) (N' := N) rfl ?_
            refine r_virtual (mj := 139) (b := 75) (as := [yi s]) (rest := []) f_141_88 (by decide) rfl m_139 (by decide) (by decide) (by decide) rfl rfl (Nat.le_of_ble_eq_true rfl) (by omega) (m_isExact hs0 hs hy) ?_
            rintro _ _ _ ⟨v88, rfl, hv88, rfl, rfl⟩
            refine r_if_ne (pc := 91) f_141_91 (by omega) (fun h91 => ?_) (fun h91 => ?_)
            · refine r_run 2 (pc' := 108) (ls' := [some (yr 75), some (yi s), some (yi (M 76 (5 * s))), some (yi (M 76 ((5 * s) + 3))), some (yi (M 76 ((5 * s) + 4))), some (yi 999)]) (st' := [yi s, yr 75]) (M' := M) (N' := N) rfl ?_
              refine r_virtual (mj := 138) (b := 75) (as := [yi s]) (rest := []) f_141_108 (by decide) rfl m_138 (by decide) (by decide) (by decide) rfl rfl (Nat.le_of_ble_eq_true rfl) (by omega) (m_middle hs0 hs) ?_
              rintro _ _ _ ⟨v108, rfl, hv108, rfl, rfl⟩
              refine r_run 5 (pc' := 126) (ls' := [some (yr 75), some (yi s), some (yi (M 76 (5 * s))), some (yi (M 76 ((5 * s) + 3))), some (yi (M 76 ((5 * s) + 4))), some (yi v108)]) (st' := [yi 999, yi 0, yi v108]) (M' := M) (N' := N) rfl ?_
              refine r_static (mj := 113) (as := [yi v108, yi 0, yi 999]) (rest := []) f_141_126 (by decide) rfl m_113 rfl rfl rfl (Nat.le_of_ble_eq_true rfl) (by omega) (m_within (by omega) (by omega) (by omega)) ?_
              rintro _ _ _ ⟨v126, rfl, hv126, rfl, rfl⟩
              refine r_iret m_141 rfl f_141_129 ?_
              exact ⟨_, rfl, by unfold sUpTo; (repeat' split) <;> omega, rfl, rfl⟩
            · refine r_run 5 (pc' := 100) (ls' := [some (yr 75), some (yi s), some (yi (M 76 (5 * s))), some (yi (M 76 ((5 * s) + 3))), some (yi (M 76 ((5 * s) + 4))), some (yi 999)]) (st' := [yi s, yr 75, yi ((M 76 ((5 * s) + 3)) - (M 76 ((5 * s) + 4)))]) (M' := M) (N' := N) rfl ?_
              refine r_virtual (mj := 138) (b := 75) (as := [yi s]) (rest := [yi ((M 76 ((5 * s) + 3)) - (M 76 ((5 * s) + 4)))]) f_141_100 (by decide) rfl m_138 (by decide) (by decide) (by decide) rfl rfl (Nat.le_of_ble_eq_true rfl) (by omega) (m_middle hs0 hs) ?_
              rintro _ _ _ ⟨v100, rfl, hv100, rfl, rfl⟩
              refine r_icmp_ge (pc := 103) f_141_103 (by omega) (by omega) (fun h103 => ?_) (fun h103 => ?_)
              · refine r_run 7 (pc' := 126) (ls' := [some (yr 75), some (yi s), some (yi (M 76 (5 * s))), some (yi (M 76 ((5 * s) + 3))), some (yi (M 76 ((5 * s) + 4))), some (yi ((M 76 ((5 * s) + 3)) - (M 76 ((5 * s) + 4))))]) (st' := [yi 999, yi 0, yi ((M 76 ((5 * s) + 3)) - (M 76 ((5 * s) + 4)))]) (M' := M) (N' := N) rfl ?_
                refine r_static (mj := 113) (as := [yi ((M 76 ((5 * s) + 3)) - (M 76 ((5 * s) + 4))), yi 0, yi 999]) (rest := []) f_141_126 (by decide) rfl m_113 rfl rfl rfl (Nat.le_of_ble_eq_true rfl) (by omega) (m_within (by omega) (by omega) (by omega)) ?_
                rintro _ _ _ ⟨v126, rfl, hv126, rfl, rfl⟩
                refine r_iret m_141 rfl f_141_129 ?_
                exact ⟨_, rfl, by unfold sUpTo; (repeat' split) <;> omega, rfl, rfl⟩
              · refine r_run 2 (pc' := 108) (ls' := [some (yr 75), some (yi s), some (yi (M 76 (5 * s))), some (yi (M 76 ((5 * s) + 3))), some (yi (M 76 ((5 * s) + 4))), some (yi 999)]) (st' := [yi s, yr 75]) (M' := M) (N' := N) rfl ?_
                refine r_virtual (mj := 138) (b := 75) (as := [yi s]) (rest := []) f_141_108 (by decide) rfl m_138 (by decide) (by decide) (by decide) rfl rfl (Nat.le_of_ble_eq_true rfl) (by omega) (m_middle hs0 hs) ?_
                rintro _ _ _ ⟨v108, rfl, hv108, rfl, rfl⟩
                refine r_run 5 (pc' := 126) (ls' := [some (yr 75), some (yi s), some (yi (M 76 (5 * s))), some (yi (M 76 ((5 * s) + 3))), some (yi (M 76 ((5 * s) + 4))), some (yi v108)]) (st' := [yi 999, yi 0, yi v108]) (M' := M) (N' := N) rfl ?_
                refine r_static (mj := 113) (as := [yi v108, yi 0, yi 999]) (rest := []) f_141_126 (by decide) rfl m_113 rfl rfl rfl (Nat.le_of_ble_eq_true rfl) (by omega) (m_within (by omega) (by omega) (by omega)) ?_
                rintro _ _ _ ⟨v126, rfl, hv126, rfl, rfl⟩
                refine r_iret m_141 rfl f_141_129 ?_
                exact ⟨_, rfl, by unfold sUpTo; (repeat' split) <;> omega, rfl, rfl⟩
      · refine r_run 5 (pc' := 62) (ls' := [some (yr 75), some (yi s), some (yi (M 76 (5 * s))), some (yi (M 76 ((5 * s) + 3))), some (yi (M 76 ((5 * s) + 4))), some (yi 999)]) (st' := [yi 3, yi (M 76 (5 * s)), yi ((M 76 ((5 * s) + 3)) + (M 76 ((5 * s) + 4)))]) (M' := M) (N' := N) rfl ?_
        refine r_icmp_ne (pc := 62) f_141_62 (by omega) (by omega) (fun h62 => ?_) (fun h62 => ?_)
        · refine r_run 5 (pc' := 78) (ls' := [some (yr 75), some (yi s), some (yi (M 76 (5 * s))), some (yi (M 76 ((5 * s) + 3))), some (yi (M 76 ((5 * s) + 4))), some (yi (((M 76 ((5 * s) + 3)) + (M 76 ((5 * s) + 4))) + 0))]) (st' := [yi 2, yi (M 76 (5 * s))]) (M' := M) (N' := N) rfl ?_
          refine r_icmp_eq (pc := 78) f_141_78 (by omega) (by omega) (fun h78 => ?_) (fun h78 => ?_)
          · refine r_run 2 (pc' := 88) (ls' := [some (yr 75), some (yi s), some (yi (M 76 (5 * s))), some (yi (M 76 ((5 * s) + 3))), some (yi (M 76 ((5 * s) + 4))), some (yi (((M 76 ((5 * s) + 3)) + (M 76 ((5 * s) + 4))) + 0))]) (st' := [yi s, yr 75]) (M' := M) (N' := N) rfl ?_
            refine r_virtual (mj := 139) (b := 75) (as := [yi s]) (rest := []) f_141_88 (by decide) rfl m_139 (by decide) (by decide) (by decide) rfl rfl (Nat.le_of_ble_eq_true rfl) (by omega) (m_isExact hs0 hs hy) ?_
            rintro _ _ _ ⟨v88, rfl, hv88, rfl, rfl⟩
            refine r_if_ne (pc := 91) f_141_91 (by omega) (fun h91 => ?_) (fun h91 => ?_)
            · refine r_run 2 (pc' := 108) (ls' := [some (yr 75), some (yi s), some (yi (M 76 (5 * s))), some (yi (M 76 ((5 * s) + 3))), some (yi (M 76 ((5 * s) + 4))), some (yi (((M 76 ((5 * s) + 3)) + (M 76 ((5 * s) + 4))) + 0))]) (st' := [yi s, yr 75]) (M' := M) (N' := N) rfl ?_
              refine r_virtual (mj := 138) (b := 75) (as := [yi s]) (rest := []) f_141_108 (by decide) rfl m_138 (by decide) (by decide) (by decide) rfl rfl (Nat.le_of_ble_eq_true rfl) (by omega) (m_middle hs0 hs) ?_
              rintro _ _ _ ⟨v108, rfl, hv108, rfl, rfl⟩
              refine r_run 5 (pc' := 126) (ls' := [some (yr 75), some (yi s), some (yi (M 76 (5 * s))), some (yi (M 76 ((5 * s) + 3))), some (yi (M 76 ((5 * s) + 4))), some (yi v108)]) (st' := [yi 999, yi 0, yi v108]) (M' := M) (N' := N) rfl ?_
              refine r_static (mj := 113) (as := [yi v108, yi 0, yi 999]) (rest := []) f_141_126 (by decide) rfl m_113 rfl rfl rfl (Nat.le_of_ble_eq_true rfl) (by omega) (m_within (by omega) (by omega) (by omega)) ?_
              rintro _ _ _ ⟨v126, rfl, hv126, rfl, rfl⟩
              refine r_iret m_141 rfl f_141_129 ?_
              exact ⟨_, rfl, by unfold sUpTo; (repeat' split) <;> omega, rfl, rfl⟩
            · refine r_run 5 (pc' := 100) (ls' := [some (yr 75), some (yi s), some (yi (M 76 (5 * s))), some (yi (M 76 ((5 * s) + 3))), some (yi (M 76 ((5 * s) + 4))), some (yi (((M 76 ((5 * s) + 3)) + (M 76 ((5 * s) + 4))) + 0))]) (st' := [yi s, yr 75, yi ((M 76 ((5 * s) + 3)) - (M 76 ((5 * s) + 4)))]) (M' := M) (N' := N) rfl ?_
              refine r_virtual (mj := 138) (b := 75) (as := [yi s]) (rest := [yi ((M 76 ((5 * s) + 3)) - (M 76 ((5 * s) + 4)))]) f_141_100 (by decide) rfl m_138 (by decide) (by decide) (by decide) rfl rfl (Nat.le_of_ble_eq_true rfl) (by omega) (m_middle hs0 hs) ?_
              rintro _ _ _ ⟨v100, rfl, hv100, rfl, rfl⟩
              refine r_icmp_ge (pc := 103) f_141_103 (by omega) (by omega) (fun h103 => ?_) (fun h103 => ?_)
              · refine r_run 7 (pc' := 126) (ls' := [some (yr 75), some (yi s), some (yi (M 76 (5 * s))), some (yi (M 76 ((5 * s) + 3))), some (yi (M 76 ((5 * s) + 4))), some (yi ((M 76 ((5 * s) + 3)) - (M 76 ((5 * s) + 4))))]) (st' := [yi 999, yi 0, yi ((M 76 ((5 * s) + 3)) - (M 76 ((5 * s) + 4)))]) (M' := M) (N' := N) rfl ?_
                refine r_static (mj := 113) (as := [yi ((M 76 ((5 * s) + 3)) - (M 76 ((5 * s) + 4))), yi 0, yi 999]) (rest := []) f_141_126 (by decide) rfl m_113 rfl rfl rfl (Nat.le_of_ble_eq_true rfl) (by omega) (m_within (by omega) (by omega) (by omega)) ?_
                rintro _ _ _ ⟨v126, rfl, hv126, rfl, rfl⟩
                refine r_iret m_141 rfl f_141_129 ?_
                exact ⟨_, rfl, by unfold sUpTo; (repeat' split) <;> omega, rfl, rfl⟩
              · refine r_run 2 (pc' := 108) (ls' := [some (yr 75), some (yi s), some (yi (M 76 (5 * s))), some (yi (M 76 ((5 * s) + 3))), some (yi (M 76 ((5 * s) + 4))), some (yi (((M 76 ((5 * s) + 3)) + (M 76 ((5 * s) + 4))) + 0))]) (st' := [yi s, yr 75]) (M' := M) (N' := N) rfl ?_
                refine r_virtual (mj := 138) (b := 75) (as := [yi s]) (rest := []) f_141_108 (by decide) rfl m_138 (by decide) (by decide) (by decide) rfl rfl (Nat.le_of_ble_eq_true rfl) (by omega) (m_middle hs0 hs) ?_
                rintro _ _ _ ⟨v108, rfl, hv108, rfl, rfl⟩
                refine r_run 5 (pc' := 126) (ls' := [some (yr 75), some (yi s), some (yi (M 76 (5 * s))), some (yi (M 76 ((5 * s) + 3))), some (yi (M 76 ((5 * s) + 4))), some (yi v108)]) (st' := [yi 999, yi 0, yi v108]) (M' := M) (N' := N) rfl ?_
                refine r_static (mj := 113) (as := [yi v108, yi 0, yi 999]) (rest := []) f_141_126 (by decide) rfl m_113 rfl rfl rfl (Nat.le_of_ble_eq_true rfl) (by omega) (m_within (by omega) (by omega) (by omega)) ?_
                rintro _ _ _ ⟨v126, rfl, hv126, rfl, rfl⟩
                refine r_iret m_141 rfl f_141_129 ?_
                exact ⟨_, rfl, by unfold sUpTo; (repeat' split) <;> omega, rfl, rfl⟩
          · refine r_run 2 (pc' := 83) (ls' := [some (yr 75), some (yi s), some (yi (M 76 (5 * s))), some (yi (M 76 ((5 * s) + 3))), some (yi (M 76 ((5 * s) + 4))), some (yi (((M 76 ((5 * s) + 3)) + (M 76 ((5 * s) + 4))) + 0))]) (st' := [yi 4, yi (M 76 (5 * s))]) (M' := M) (N' := N) rfl ?_
            refine r_icmp_ne (pc := 83) f_141_83 (by omega) (by omega) (fun h83 => ?_) (fun h83 => ?_)
            · refine r_run 3 (pc' := 126) (ls' := [some (yr 75), some (yi s), some (yi (M 76 (5 * s))), some (yi (M 76 ((5 * s) + 3))), some (yi (M 76 ((5 * s) + 4))), some (yi (((M 76 ((5 * s) + 3)) + (M 76 ((5 * s) + 4))) + 0))]) (st' := [yi 999, yi 0, yi (((M 76 ((5 * s) + 3)) + (M 76 ((5 * s) + 4))) + 0)]) (M' := M) (N' := N) rfl ?_
              refine r_static (mj := 113) (as := [yi (((M 76 ((5 * s) + 3)) + (M 76 ((5 * s) + 4))) + 0), yi 0, yi 999]) (rest := []) f_141_126 (by decide) rfl m_113 rfl rfl rfl (Nat.le_of_ble_eq_true rfl) (by omega) (m_within (by omega) (by omega) (by omega)) ?_
              rintro _ _ _ ⟨v126, rfl, hv126, rfl, rfl⟩
              refine r_iret m_141 rfl f_141_129 ?_
              exact ⟨_, rfl, by unfold sUpTo; (repeat' split) <;> omega, rfl, rfl⟩
            · refine r_run 2 (pc' := 88) (ls' := [some (yr 75), some (yi s), some (yi (M 76 (5 * s))), some (yi (M 76 ((5 * s) + 3))), some (yi (M 76 ((5 * s) + 4))), some (yi (((M 76 ((5 * s) + 3)) + (M 76 ((5 * s) + 4))) + 0))]) (st' := [yi s, yr 75]) (M' := M) (N' := N) rfl ?_
              refine r_virtual (mj := 139) (b := 75) (as := [yi s]) (rest := []) f_141_88 (by decide) rfl m_139 (by decide) (by decide) (by decide) rfl rfl (Nat.le_of_ble_eq_true rfl) (by omega) (m_isExact hs0 hs hy) ?_
              rintro _ _ _ ⟨v88, rfl, hv88, rfl, rfl⟩
              refine r_if_ne (pc := 91) f_141_91 (by omega) (fun h91 => ?_) (fun h91 => ?_)
              · refine r_run 2 (pc' := 108) (ls' := [some (yr 75), some (yi s), some (yi (M 76 (5 * s))), some (yi (M 76 ((5 * s) + 3))), some (yi (M 76 ((5 * s) + 4))), some (yi (((M 76 ((5 * s) + 3)) + (M 76 ((5 * s) + 4))) + 0))]) (st' := [yi s, yr 75]) (M' := M) (N' := N) rfl ?_
                refine r_virtual (mj := 138) (b := 75) (as := [yi s]) (rest := []) f_141_108 (by decide) rfl m_138 (by decide) (by decide) (by decide) rfl rfl (Nat.le_of_ble_eq_true rfl) (by omega) (m_middle hs0 hs) ?_
                rintro _ _ _ ⟨v108, rfl, hv108, rfl, rfl⟩
                refine r_run 5 (pc' := 126) (ls' := [some (yr 75), some (yi s), some (yi (M 76 (5 * s))), some (yi (M 76 ((5 * s) + 3))), some (yi (M 76 ((5 * s) + 4))), some (yi v108)]) (st' := [yi 999, yi 0, yi v108]) (M' := M) (N' := N) rfl ?_
                refine r_static (mj := 113) (as := [yi v108, yi 0, yi 999]) (rest := []) f_141_126 (by decide) rfl m_113 rfl rfl rfl (Nat.le_of_ble_eq_true rfl) (by omega) (m_within (by omega) (by omega) (by omega)) ?_
                rintro _ _ _ ⟨v126, rfl, hv126, rfl, rfl⟩
                refine r_iret m_141 rfl f_141_129 ?_
                exact ⟨_, rfl, by unfold sUpTo; (repeat' split) <;> omega, rfl, rfl⟩
              · refine r_run 5 (pc' := 100) (ls' := [some (yr 75), some (yi s), some (yi (M 76 (5 * s))), some (yi (M 76 ((5 * s) + 3))), some (yi (M 76 ((5 * s) + 4))), some (yi (((M 76 ((5 * s) + 3)) + (M 76 ((5 * s) + 4))) + 0))]) (st' := [yi s, yr 75, yi ((M 76 ((5 * s) + 3)) - (M 76 ((5 * s) + 4)))]) (M' := M) (N' := N) rfl ?_
                refine r_virtual (mj := 138) (b := 75) (as := [yi s]) (rest := [yi ((M 76 ((5 * s) + 3)) - (M 76 ((5 * s) + 4)))]) f_141_100 (by decide) rfl m_138 (by decide) (by decide) (by decide) rfl rfl (Nat.le_of_ble_eq_true rfl) (by omega) (m_middle hs0 hs) ?_
                rintro _ _ _ ⟨v100, rfl, hv100, rfl, rfl⟩
                refine r_icmp_ge (pc := 103) f_141_103 (by omega) (by omega) (fun h103 => ?_) (fun h103 => ?_)
                · refine r_run 7 (pc' := 126) (ls' := [some (yr 75), some (yi s), some (yi (M 76 (5 * s))), some (yi (M 76 ((5 * s) + 3))), some (yi (M 76 ((5 * s) + 4))), some (yi ((M 76 ((5 * s) + 3)) - (M 76 ((5 * s) + 4))))]) (st' := [yi 999, yi 0, yi ((M 76 ((5 * s) + 3)) - (M 76 ((5 * s) + 4)))]) (M' := M) (N' := N) rfl ?_
                  refine r_static (mj := 113) (as := [yi ((M 76 ((5 * s) + 3)) - (M 76 ((5 * s) + 4))), yi 0, yi 999]) (rest := []) f_141_126 (by decide) rfl m_113 rfl rfl rfl (Nat.le_of_ble_eq_true rfl) (by omega) (m_within (by omega) (by omega) (by omega)) ?_
                  rintro _ _ _ ⟨v126, rfl, hv126, rfl, rfl⟩
                  refine r_iret m_141 rfl f_141_129 ?_
                  exact ⟨_, rfl, by unfold sUpTo; (repeat' split) <;> omega, rfl, rfl⟩
                · refine r_run 2 (pc' := 108) (ls' := [some (yr 75), some (yi s), some (yi (M 76 (5 * s))), some (yi (M 76 ((5 * s) + 3))), some (yi (M 76 ((5 * s) + 4))), some (yi (((M 76 ((5 * s) + 3)) + (M 76 ((5 * s) + 4))) + 0))]) (st' := [yi s, yr 75]) (M' := M) (N' := N) rfl ?_
                  refine r_virtual (mj := 138) (b := 75) (as := [yi s]) (rest := []) f_141_108 (by decide) rfl m_138 (by decide) (by decide) (by decide) rfl rfl (Nat.le_of_ble_eq_true rfl) (by omega) (m_middle hs0 hs) ?_
                  rintro _ _ _ ⟨v108, rfl, hv108, rfl, rfl⟩
                  refine r_run 5 (pc' := 126) (ls' := [some (yr 75), some (yi s), some (yi (M 76 (5 * s))), some (yi (M 76 ((5 * s) + 3))), some (yi (M 76 ((5 * s) + 4))), some (yi v108)]) (st' := [yi 999, yi 0, yi v108]) (M' := M) (N' := N) rfl ?_
                  refine r_static (mj := 113) (as := [yi v108, yi 0, yi 999]) (rest := []) f_141_126 (by decide) rfl m_113 rfl rfl rfl (Nat.le_of_ble_eq_true rfl) (by omega) (m_within (by omega) (by omega) (by omega)) ?_
                  rintro _ _ _ ⟨v126, rfl, hv126, rfl, rfl⟩
                  refine r_iret m_141 rfl f_141_129 ?_
                  exact ⟨_, rfl, by unfold sUpTo; (repeat' split) <;> omega, rfl, rfl⟩
        · refine r_run 7 (pc' := 78) (ls' := [some (yr 75), some (yi s), some (yi (M 76 (5 * s))), some (yi (M 76 ((5 * s) + 3))), some (yi (M 76 ((5 * s) + 4))), some (yi (((M 76 ((5 * s) + 3)) + (M 76 ((5 * s) + 4))) + (M 75 4)))]) (st' := [yi 2, yi (M 76 (5 * s))]) (M' := M) (N' := N) rfl ?_
          refine r_icmp_eq (pc := 78) f_141_78 (by omega) (by omega) (fun h78 => ?_) (fun h78 => ?_)
          · refine r_run 2 (pc' := 88) (ls' := [some (yr 75), some (yi s), some (yi (M 76 (5 * s))), some (yi (M 76 ((5 * s) + 3))), some (yi (M 76 ((5 * s) + 4))), some (yi (((M 76 ((5 * s) + 3)) + (M 76 ((5 * s) + 4))) + (M 75 4)))]) (st' := [yi s, yr 75]) (M' := M) (N' := N) rfl ?_
            refine r_virtual (mj := 139) (b := 75) (as := [yi s]) (rest := []) f_141_88 (by decide) rfl m_139 (by decide) (by decide) (by decide) rfl rfl (Nat.le_of_ble_eq_true rfl) (by omega) (m_isExact hs0 hs hy) ?_
            rintro _ _ _ ⟨v88, rfl, hv88, rfl, rfl⟩
            refine r_if_ne (pc := 91) f_141_91 (by omega) (fun h91 => ?_) (fun h91 => ?_)
            · refine r_run 2 (pc' := 108) (ls' := [some (yr 75), some (yi s), some (yi (M 76 (5 * s))), some (yi (M 76 ((5 * s) + 3))), some (yi (M 76 ((5 * s) + 4))), some (yi (((M 76 ((5 * s) + 3)) + (M 76 ((5 * s) + 4))) + (M 75 4)))]) (st' := [yi s, yr 75]) (M' := M) (N' := N) rfl ?_
              refine r_virtual (mj := 138) (b := 75) (as := [yi s]) (rest := []) f_141_108 (by decide) rfl m_138 (by decide) (by decide) (by decide) rfl rfl (Nat.le_of_ble_eq_true rfl) (by omega) (m_middle hs0 hs) ?_
              rintro _ _ _ ⟨v108, rfl, hv108, rfl, rfl⟩
              refine r_run 5 (pc' := 126) (ls' := [some (yr 75), some (yi s), some (yi (M 76 (5 * s))), some (yi (M 76 ((5 * s) + 3))), some (yi (M 76 ((5 * s) + 4))), some (yi v108)]) (st' := [yi 999, yi 0, yi v108]) (M' := M) (N' := N) rfl ?_
              refine r_static (mj := 113) (as := [yi v108, yi 0, yi 999]) (rest := []) f_141_126 (by decide) rfl m_113 rfl rfl rfl (Nat.le_of_ble_eq_true rfl) (by omega) (m_within (by omega) (by omega) (by omega)) ?_
              rintro _ _ _ ⟨v126, rfl, hv126, rfl, rfl⟩
              refine r_iret m_141 rfl f_141_129 ?_
              exact ⟨_, rfl, by unfold sUpTo; (repeat' split) <;> omega, rfl, rfl⟩
            · refine r_run 5 (pc' := 100) (ls' := [some (yr 75), some (yi s), some (yi (M 76 (5 * s))), some (yi (M 76 ((5 * s) + 3))), some (yi (M 76 ((5 * s) + 4))), some (yi (((M 76 ((5 * s) + 3)) + (M 76 ((5 * s) + 4))) + (M 75 4)))]) (st' := [yi s, yr 75, yi ((M 76 ((5 * s) + 3)) - (M 76 ((5 * s) + 4)))]) (M' := M) (N' := N) rfl ?_
              refine r_virtual (mj := 138) (b := 75) (as := [yi s]) (rest := [yi ((M 76 ((5 * s) + 3)) - (M 76 ((5 * s) + 4)))]) f_141_100 (by decide) rfl m_138 (by decide) (by decide) (by decide) rfl rfl (Nat.le_of_ble_eq_true rfl) (by omega) (m_middle hs0 hs) ?_
              rintro _ _ _ ⟨v100, rfl, hv100, rfl, rfl⟩
              refine r_icmp_ge (pc := 103) f_141_103 (by omega) (by omega) (fun h103 => ?_) (fun h103 => ?_)
              · refine r_run 7 (pc' := 126) (ls' := [some (yr 75), some (yi s), some (yi (M 76 (5 * s))), some (yi (M 76 ((5 * s) + 3))), some (yi (M 76 ((5 * s) + 4))), some (yi ((M 76 ((5 * s) + 3)) - (M 76 ((5 * s) + 4))))]) (st' := [yi 999, yi 0, yi ((M 76 ((5 * s) + 3)) - (M 76 ((5 * s) + 4)))]) (M' := M) (N' := N) rfl ?_
                refine r_static (mj := 113) (as := [yi ((M 76 ((5 * s) + 3)) - (M 76 ((5 * s) + 4))), yi 0, yi 999]) (rest := []) f_141_126 (by decide) rfl m_113 rfl rfl rfl (Nat.le_of_ble_eq_true rfl) (by omega) (m_within (by omega) (by omega) (by omega)) ?_
                rintro _ _ _ ⟨v126, rfl, hv126, rfl, rfl⟩
                refine r_iret m_141 rfl f_141_129 ?_
                exact ⟨_, rfl, by unfold sUpTo; (repeat' split) <;> omega, rfl, rfl⟩
              · refine r_run 2 (pc' := 108) (ls' := [some (yr 75), some (yi s), some (yi (M 76 (5 * s))), some (yi (M 76 ((5 * s) + 3))), some (yi (M 76 ((5 * s) + 4))), some (yi (((M 76 ((5 * s) + 3)) + (M 76 ((5 * s) + 4))) + (M 75 4)))]) (st' := [yi s, yr 75]) (M' := M) (N' := N) rfl ?_
                refine r_virtual (mj := 138) (b := 75) (as := [yi s]) (rest := []) f_141_108 (by decide) rfl m_138 (by decide) (by decide) (by decide) rfl rfl (Nat.le_of_ble_eq_true rfl) (by omega) (m_middle hs0 hs) ?_
                rintro _ _ _ ⟨v108, rfl, hv108, rfl, rfl⟩
                refine r_run 5 (pc' := 126) (ls' := [some (yr 75), some (yi s), some (yi (M 76 (5 * s))), some (yi (M 76 ((5 * s) + 3))), some (yi (M 76 ((5 * s) + 4))), some (yi v108)]) (st' := [yi 999, yi 0, yi v108]) (M' := M) (N' := N) rfl ?_
                refine r_static (mj := 113) (as := [yi v108, yi 0, yi 999]) (rest := []) f_141_126 (by decide) rfl m_113 rfl rfl rfl (Nat.le_of_ble_eq_true rfl) (by omega) (m_within (by omega) (by omega) (by omega)) ?_
                rintro _ _ _ ⟨v126, rfl, hv126, rfl, rfl⟩
                refine r_iret m_141 rfl f_141_129 ?_
                exact ⟨_, rfl, by unfold sUpTo; (repeat' split) <;> omega, rfl, rfl⟩
          · refine r_run 2 (pc' := 83) (ls' := [some (yr 75), some (yi s), some (yi (M 76 (5 * s))), some (yi (M 76 ((5 * s) + 3))), some (yi (M 76 ((5 * s) + 4))), some (yi (((M 76 ((5 * s) + 3)) + (M 76 ((5 * s) + 4))) + (M 75 4)))]) (st' := [yi 4, yi (M 76 (5 * s))]) (M' := M) (N' := N) rfl ?_
            refine r_icmp_ne (pc := 83) f_141_83 (by omega) (by omega) (fun h83 => ?_) (fun h83 => ?_)
            · refine r_run 3 (pc' := 126) (ls' := [some (yr 75), some (yi s), some (yi (M 76 (5 * s))), some (yi (M 76 ((5 * s) + 3))), some (yi (M 76 ((5 * s) + 4))), some (yi (((M 76 ((5 * s) + 3)) + (M 76 ((5 * s) + 4))) + (M 75 4)))]) (st' := [yi 999, yi 0, yi (((M 76 ((5 * s) + 3)) + (M 76 ((5 * s) + 4))) + (M 75 4))]) (M' := M) (N' := N) rfl ?_
              refine r_static (mj := 113) (as := [yi (((M 76 ((5 * s) + 3)) + (M 76 ((5 * s) + 4))) + (M 75 4)), yi 0, yi 999]) (rest := []) f_141_126 (by decide) rfl m_113 rfl rfl rfl (Nat.le_of_ble_eq_true rfl) (by omega) (m_within (by omega) (by omega) (by omega)) ?_
              rintro _ _ _ ⟨v126, rfl, hv126, rfl, rfl⟩
              refine r_iret m_141 rfl f_141_129 ?_
              exact ⟨_, rfl, by unfold sUpTo; (repeat' split) <;> omega, rfl, rfl⟩
            · refine r_run 2 (pc' := 88) (ls' := [some (yr 75), some (yi s), some (yi (M 76 (5 * s))), some (yi (M 76 ((5 * s) + 3))), some (yi (M 76 ((5 * s) + 4))), some (yi (((M 76 ((5 * s) + 3)) + (M 76 ((5 * s) + 4))) + (M 75 4)))]) (st' := [yi s, yr 75]) (M' := M) (N' := N) rfl ?_
              refine r_virtual (mj := 139) (b := 75) (as := [yi s]) (rest := []) f_141_88 (by decide) rfl m_139 (by decide) (by decide) (by decide) rfl rfl (Nat.le_of_ble_eq_true rfl) (by omega) (m_isExact hs0 hs hy) ?_
              rintro _ _ _ ⟨v88, rfl, hv88, rfl, rfl⟩
              refine r_if_ne (pc := 91) f_141_91 (by omega) (fun h91 => ?_) (fun h91 => ?_)
              · refine r_run 2 (pc' := 108) (ls' := [some (yr 75), some (yi s), some (yi (M 76 (5 * s))), some (yi (M 76 ((5 * s) + 3))), some (yi (M 76 ((5 * s) + 4))), some (yi (((M 76 ((5 * s) + 3)) + (M 76 ((5 * s) + 4))) + (M 75 4)))]) (st' := [yi s, yr 75]) (M' := M) (N' := N) rfl ?_
                refine r_virtual (mj := 138) (b := 75) (as := [yi s]) (rest := []) f_141_108 (by decide) rfl m_138 (by decide) (by decide) (by decide) rfl rfl (Nat.le_of_ble_eq_true rfl) (by omega) (m_middle hs0 hs) ?_
                rintro _ _ _ ⟨v108, rfl, hv108, rfl, rfl⟩
                refine r_run 5 (pc' := 126) (ls' := [some (yr 75), some (yi s), some (yi (M 76 (5 * s))), some (yi (M 76 ((5 * s) + 3))), some (yi (M 76 ((5 * s) + 4))), some (yi v108)]) (st' := [yi 999, yi 0, yi v108]) (M' := M) (N' := N) rfl ?_
                refine r_static (mj := 113) (as := [yi v108, yi 0, yi 999]) (rest := []) f_141_126 (by decide) rfl m_113 rfl rfl rfl (Nat.le_of_ble_eq_true rfl) (by omega) (m_within (by omega) (by omega) (by omega)) ?_
                rintro _ _ _ ⟨v126, rfl, hv126, rfl, rfl⟩
                refine r_iret m_141 rfl f_141_129 ?_
                exact ⟨_, rfl, by unfold sUpTo; (repeat' split) <;> omega, rfl, rfl⟩
              · refine r_run 5 (pc' := 100) (ls' := [some (yr 75), some (yi s), some (yi (M 76 (5 * s))), some (yi (M 76 ((5 * s) + 3))), some (yi (M 76 ((5 * s) + 4))), some (yi (((M 76 ((5 * s) + 3)) + (M 76 ((5 * s) + 4))) + (M 75 4)))]) (st' := [yi s, yr 75, yi ((M 76 ((5 * s) + 3)) - (M 76 ((5 * s) + 4)))]) (M' := M) (N' := N) rfl ?_
                refine r_virtual (mj := 138) (b := 75) (as := [yi s]) (rest := [yi ((M 76 ((5 * s) + 3)) - (M 76 ((5 * s) + 4)))]) f_141_100 (by decide) rfl m_138 (by decide) (by decide) (by decide) rfl rfl (Nat.le_of_ble_eq_true rfl) (by omega) (m_middle hs0 hs) ?_
                rintro _ _ _ ⟨v100, rfl, hv100, rfl, rfl⟩
                refine r_icmp_ge (pc := 103) f_141_103 (by omega) (by omega) (fun h103 => ?_) (fun h103 => ?_)
                · refine r_run 7 (pc' := 126) (ls' := [some (yr 75), some (yi s), some (yi (M 76 (5 * s))), some (yi (M 76 ((5 * s) + 3))), some (yi (M 76 ((5 * s) + 4))), some (yi ((M 76 ((5 * s) + 3)) - (M 76 ((5 * s) + 4))))]) (st' := [yi 999, yi 0, yi ((M 76 ((5 * s) + 3)) - (M 76 ((5 * s) + 4)))]) (M' := M) (N' := N) rfl ?_
                  refine r_static (mj := 113) (as := [yi ((M 76 ((5 * s) + 3)) - (M 76 ((5 * s) + 4))), yi 0, yi 999]) (rest := []) f_141_126 (by decide) rfl m_113 rfl rfl rfl (Nat.le_of_ble_eq_true rfl) (by omega) (m_within (by omega) (by omega) (by omega)) ?_
                  rintro _ _ _ ⟨v126, rfl, hv126, rfl, rfl⟩
                  refine r_iret m_141 rfl f_141_129 ?_
                  exact ⟨_, rfl, by unfold sUpTo; (repeat' split) <;> omega, rfl, rfl⟩
                · refine r_run 2 (pc' := 108) (ls' := [some (yr 75), some (yi s), some (yi (M 76 (5 * s))), some (yi (M 76 ((5 * s) + 3))), some (yi (M 76 ((5 * s) + 4))), some (yi (((M 76 ((5 * s) + 3)) + (M 76 ((5 * s) + 4))) + (M 75 4)))]) (st' := [yi s, yr 75]) (M' := M) (N' := N) rfl ?_
                  refine r_virtual (mj := 138) (b := 75) (as := [yi s]) (rest := []) f_141_108 (by decide) rfl m_138 (by decide) (by decide) (by decide) rfl rfl (Nat.le_of_ble_eq_true rfl) (by omega) (m_middle hs0 hs) ?_
                  rintro _ _ _ ⟨v108, rfl, hv108, rfl, rfl⟩
                  refine r_run 5 (pc' := 126) (ls' := [some (yr 75), some (yi s), some (yi (M 76 (5 * s))), some (yi (M 76 ((5 * s) + 3))), some (yi (M 76 ((5 * s) + 4))), some (yi v108)]) (st' := [yi 999, yi 0, yi v108]) (M' := M) (N' := N) rfl ?_
                  refine r_static (mj := 113) (as := [yi v108, yi 0, yi 999]) (rest := []) f_141_126 (by decide) rfl m_113 rfl rfl rfl (Nat.le_of_ble_eq_true rfl) (by omega) (m_within (by omega) (by omega) (by omega)) ?_
                  rintro _ _ _ ⟨v126, rfl, hv126, rfl, rfl⟩
                  refine r_iret m_141 rfl f_141_129 ?_
                  exact ⟨_, rfl, by unfold sUpTo; (repeat' split) <;> omega, rfl, rfl⟩
