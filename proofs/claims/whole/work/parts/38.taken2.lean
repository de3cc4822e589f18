theorem c_taken {S : XS} {M N : YM} {x w : Int} (hI : InvS M) (hL : InvL M) (hx : -2147483648 ≤ x ∧ x < 2147483648) (hw : -2147483648 ≤ w ∧ w < 2147483648) : rm S 2 89 [yr 0, yi x, yi w] M N (fun r M' N' => ∃ v : Int, some (yi v) = r ∧ (v = if w < 0 ∨ 6 < w then -2 else if x < 0 ∨ 17 < x then -12 else if x < 10 ∧ M 75 0 ≤ x then -11 else if x < 10 ∧ w ≠ 6 ∧ (w = 0 ∨ M 76 (5 * x) = w ∨ (w = 1 ∧ M 76 (5 * x) = 3) ∨ (w = 2 ∧ M 76 (5 * x) = 4)) then x else if x < 10 then -13 else if M 75 2 ≤ x - 10 then -11 else if w = 6 then M 77 (4 * (x - 10) + 3) - M 77 (4 * (x - 10) + 2) else -13) ∧ M = M' ∧ N = N') := by
  refine ⟨xe_89, m_89, Nat.le_of_ble_eq_true rfl, ?_⟩
  have hK : 0 ≤ x → x < M 75 0 → M (3 + x) 0 = M 76 (5 * x) ∧ 0 ≤ M 76 (5 * x) ∧ M 76 (5 * x) ≤ 5 := fun h0 h1 => ⟨(hI.2.2.2.2 x h0 h1).1.1, (hI.2.2.2.2 x h0 h1).2.1.1⟩
  have hQ : 0 ≤ x - 10 → x - 10 < 8 → M (41 + (x - 10)) 2 = M 77 (4 * (x - 10) + 2) ∧ M (41 + (x - 10)) 3 = M 77 (4 * (x - 10) + 3) := fun h0 h1 => ⟨(hL.2.2 (x - 10) h0 h1).1.2.2.1, (hL.2.2 (x - 10) h0 h1).1.2.2.2⟩
  obtain ⟨g0, g1, -⟩ := id hI
  obtain ⟨l0, l1, -⟩ := id hL
  refine r_run 3 (pc' := 4) (ls' := [some (yr 0), some (yi x), some (yi w), none]) (st' := [yi 6, yi 0, yi w]) (M' := M) (N' := N) rfl ?_
  refine r_static (mj := 90) (as := [yi w, yi 0, yi 6]) (rest := []) f_89_4 (by decide) rfl m_90 rfl rfl rfl (Nat.le_of_ble_eq_true rfl) (by omega) (c_within (by omega) (by omega) (by omega)) ?_
  rintro _ _ _ ⟨v4, rfl, hv4, rfl, rfl⟩
  refine r_if_ne (pc := 7) f_89_7 (by omega) (fun h7 => ?_) (fun h7 => ?_)
  · refine r_run 3 (pc' := 17) (ls' := [some (yr 0), some (yi x), some (yi w), none]) (st' := [yi 17, yi 0, yi x]) (M' := M) (N' := N) rfl ?_
    refine r_static (mj := 90) (as := [yi x, yi 0, yi 17]) (rest := []) f_89_17 (by decide) rfl m_90 rfl rfl rfl (Nat.le_of_ble_eq_true rfl) (by omega) (c_within (by omega) (by omega) (by omega)) ?_
    rintro _ _ _ ⟨v17, rfl, hv17, rfl, rfl⟩
    refine r_if_ne (pc := 20) f_89_20 (by omega) (fun h20 => ?_) (fun h20 => ?_)
    · refine r_run 2 (pc' := 29) (ls' := [some (yr 0), some (yi x), some (yi w), none]) (st' := [yi 10, yi x]) (M' := M) (N' := N) rfl ?_
      refine r_icmp_ge (pc := 29) f_89_29 (by omega) (by omega) (fun h29 => ?_) (fun h29 => ?_)
      · refine r_run 8 (pc' := 85) (ls' := [some (yr 0), some (yi x), some (yi w), some (yi (x - 10))]) (st' := [yi (M 1 2), yi (x - 10)]) (M' := M) (N' := N) rfl ?_
        refine r_icmp_lt (pc := 85) f_89_85 (by omega) (by omega) (fun h85 => ?_) (fun h85 => ?_)
        · refine r_run 2 (pc' := 94) (ls' := [some (yr 0), some (yi x), some (yi w), some (yi (x - 10))]) (st' := [yi 6, yi w]) (M' := M) (N' := N) rfl ?_
          refine r_icmp_ne (pc := 94) f_89_94 (by omega) (by omega) (fun h94 => ?_) (fun h94 => ?_)
          · refine r_run 1 (pc' := 121) (ls' := [some (yr 0), some (yi x), some (yi w), some (yi (x - 10))]) (st' := [yi (-13)]) (M' := M) (N' := N) rfl ?_
            refine r_iret m_89 rfl f_89_121 ?_
            exact ⟨_, rfl, by rw [if_neg (by omega), if_neg (by omega), if_neg (by omega), if_neg (by omega), if_neg (by omega), if_neg (by omega), if_neg (by omega)], rfl, rfl⟩
          · refine r_run 3 (pc' := 102) (ls' := [some (yr 0), some (yi x), some (yi w), some (yi (x - 10))]) (st' := [yi (x - 10), yr 25]) (M' := M) (N' := N) rfl ?_
            refine r_aald (r := 41 + (x - 10)) (kd := 100) (n := 8) f_89_102 (by decide) (by decide) (by decide) (by decide) (by omega) (rf_link (by omega)) ?_
            refine r_getf (n := 4) 3 rfl f_89_103 (by decide) (show xFT[3]? = some (0, 3) from rfl) (by decide) (by omega) (yk_link (by omega)) ?_
            refine r_run 3 (pc' := 111) (ls' := [some (yr 0), some (yi x), some (yi w), some (yi (x - 10))]) (st' := [yi (x - 10), yr 25, yi (M (41 + (x - 10)) 3)]) (M' := M) (N' := N) rfl ?_
            refine r_aald (r := 41 + (x - 10)) (kd := 100) (n := 8) f_89_111 (by decide) (by decide) (by decide) (by decide) (by omega) (rf_link (by omega)) ?_
            refine r_getf (n := 4) 2 rfl f_89_112 (by decide) (show xFT[2]? = some (0, 2) from rfl) (by decide) (by omega) (yk_link (by omega)) ?_
            refine r_run 2 (pc' := 121) (ls' := [some (yr 0), some (yi x), some (yi w), some (yi (x - 10))]) (st' := [yi ((M (41 + (x - 10)) 3) - (M (41 + (x - 10)) 2))]) (M' := M) (N' := N) rfl ?_
            refine r_iret m_89 rfl f_89_121 ?_
            exact ⟨_, rfl, by rw [if_neg (by omega), if_neg (by omega), if_neg (by omega), if_neg (by omega), if_neg (by omega), if_neg (by omega), if_pos (by omega)]; omega, rfl, rfl⟩
        · refine r_run 1 (pc' := 90) (ls' := [some (yr 0), some (yi x), some (yi w), some (yi (x - 10))]) (st' := [yi (-11)]) (M' := M) (N' := N) rfl ?_
          refine r_iret m_89 rfl f_89_90 ?_
          exact ⟨_, rfl, by rw [if_neg (by omega), if_neg (by omega), if_neg (by omega), if_neg (by omega), if_neg (by omega), if_pos (by omega)], rfl, rfl⟩
      · refine r_run 2 (pc' := 34) (ls' := [some (yr 0), some (yi x), some (yi w), none]) (st' := [yi x, yr 0]) (M' := M) (N' := N) rfl ?_
        refine r_virtual (mj := 95) (b := 0) (as := [yi x]) (rest := []) f_89_34 (by decide) rfl m_95 (by decide) (by decide) (by decide) rfl rfl (Nat.le_of_ble_eq_true rfl) (by omega) (c_isSaying (by omega) (by omega)) ?_
        rintro _ _ _ ⟨v34, rfl, hv34, rfl, rfl⟩
        refine r_if_ne (pc := 37) f_89_37 (by omega) (fun h37 => ?_) (fun h37 => ?_)
        · refine r_run 2 (pc' := 46) (ls' := [some (yr 0), some (yi x), some (yi w), none]) (st' := [yi 6, yi w]) (M' := M) (N' := N) rfl ?_
          refine r_icmp_eq (pc := 46) f_89_46 (by omega) (by omega) (fun h46 => ?_) (fun h46 => ?_)
          · refine r_run 1 (pc' := 71) (ls' := [some (yr 0), some (yi x), some (yi w), none]) (st' := [yi (-13)]) (M' := M) (N' := N) rfl ?_
            refine r_iret m_89 rfl f_89_71 ?_
            exact ⟨_, rfl, by rw [if_neg (by omega), if_neg (by omega), if_neg (by omega), if_neg (by omega), if_pos (by omega)], rfl, rfl⟩
          · refine r_run 4 (pc' := 57) (ls' := [some (yr 0), some (yi x), some (yi w), none]) (st' := [yi x, yr 2]) (M' := M) (N' := N) rfl ?_
            refine r_aald (r := 3 + x) (kd := 102) (n := 10) f_89_57 (by decide) (by decide) (by decide) (by decide) (by omega) (rf_say (by omega)) ?_
            refine r_run 1 (pc' := 59) (ls' := [some (yr 0), some (yi x), some (yi w), none]) (st' := [yi w, yr (3 + x)]) (M' := M) (N' := N) rfl ?_
            refine r_virtual (mj := 26) (b := 3 + x) (as := [yi w]) (rest := []) f_89_59 (by decide) rfl m_26 (by decide) (by omega) (by rw [(yk_say (by omega))]; rfl) rfl rfl (Nat.le_of_ble_eq_true rfl) (by omega) (c_isA (by omega) (yk_say (by omega)) (by omega) (by omega)) ?_
            rintro _ _ _ ⟨v59, rfl, hv59, rfl, rfl⟩
            refine r_if_eq (pc := 62) f_89_62 (by omega) (fun h62 => ?_) (fun h62 => ?_)
            · refine r_run 1 (pc' := 71) (ls' := [some (yr 0), some (yi x), some (yi w), none]) (st' := [yi (-13)]) (M' := M) (N' := N) rfl ?_
              refine r_iret m_89 rfl f_89_71 ?_
              exact ⟨_, rfl, by rw [if_neg (by omega), if_neg (by omega), if_neg (by omega), if_neg (by omega), if_pos (by omega)], rfl, rfl⟩
            · refine r_run 2 (pc' := 71) (ls' := [some (yr 0), some (yi x), some (yi w), none]) (st' := [yi x]) (M' := M) (N' := N) rfl ?_
              refine r_iret m_89 rfl f_89_71 ?_
              exact ⟨_, rfl, by rw [if_neg (by omega), if_neg (by omega), if_neg (by omega), if_pos (by omega)], rfl, rfl⟩
        · refine r_run 1 (pc' := 42) (ls' := [some (yr 0), some (yi x), some (yi w), none]) (st' := [yi (-11)]) (M' := M) (N' := N) rfl ?_
          refine r_iret m_89 rfl f_89_42 ?_
          exact ⟨_, rfl, by rw [if_neg (by omega), if_neg (by omega), if_pos (by omega)], rfl, rfl⟩
    · refine r_run 1 (pc' := 25) (ls' := [some (yr 0), some (yi x), some (yi w), none]) (st' := [yi (-12)]) (M' := M) (N' := N) rfl ?_
      refine r_iret m_89 rfl f_89_25 ?_
      exact ⟨_, rfl, by rw [if_neg (by omega), if_pos (by omega)], rfl, rfl⟩
  · refine r_run 1 (pc' := 12) (ls' := [some (yr 0), some (yi x), some (yi w), none]) (st' := [yi (-2)]) (M' := M) (N' := N) rfl ?_
    refine r_iret m_89 rfl f_89_12 ?_
    exact ⟨_, rfl, by rw [if_pos (by omega)], rfl, rfl⟩
theorem m_taken {S : XS} {M N : YM} {x w : Int} (hI : InvS M) (hL : InvL M) (hx : -2147483648 ≤ x ∧ x < 2147483648) (hw : -2147483648 ≤ w ∧ w < 2147483648) : rm S 2 191 [yr 75, yi x, yi w] M N (fun r M' N' => ∃ v : Int, some (yi v) = r ∧ (v = if w < 0 ∨ 6 < w then -2 else if x < 0 ∨ 17 < x then -12 else if x < 10 ∧ M 75 0 ≤ x then -11 else if x < 10 ∧ w ≠ 6 ∧ (w = 0 ∨ M 76 (5 * x) = w ∨ (w = 1 ∧ M 76 (5 * x) = 3) ∨ (w = 2 ∧ M 76 (5 * x) = 4)) then x else if x < 10 then -13 else if M 75 2 ≤ x - 10 then -11 else if w = 6 then M 77 (4 * (x - 10) + 3) - M 77 (4 * (x - 10) + 2) else -13) ∧ M = M' ∧ N = N') := by
  refine ⟨xe_191, m_191, Nat.le_of_ble_eq_true rfl, ?_⟩
  have hK : 0 ≤ x → x < M 75 0 → M (3 + x) 0 = M 76 (5 * x) ∧ 0 ≤ M 76 (5 * x) ∧ M 76 (5 * x) ≤ 5 := fun h0 h1 => ⟨(hI.2.2.2.2 x h0 h1).1.1, (hI.2.2.2.2 x h0 h1).2.1.1⟩
  have hQ : 0 ≤ x - 10 → x - 10 < 8 → M (41 + (x - 10)) 2 = M 77 (4 * (x - 10) + 2) ∧ M (41 + (x - 10)) 3 = M 77 (4 * (x - 10) + 3) := fun h0 h1 => ⟨(hL.2.2 (x - 10) h0 h1).1.2.2.1, (hL.2.2 (x - 10) h0 h1).1.2.2.2⟩
  obtain ⟨g0, g1, -⟩ := id hI
  obtain ⟨l0, l1, -⟩ := id hL
  refine r_run 3 (pc' := 4) (ls' := [some (yr 75), some (yi x), some (yi w), none]) (st' := [yi 6, yi 0, yi w]) (M' := M) (N' := N) rfl ?_
  refine r_static (mj := 112) (as := [yi w, yi 0, yi 6]) (rest := []) f_191_4 (by decide) rfl m_112 rfl rfl rfl (Nat.le_of_ble_eq_true rfl) (by omega) (m_in (by omega) (by omega) (by omega)) ?_
  rintro _ _ _ ⟨v4, rfl, hv4, rfl, rfl⟩
  refine r_if_ne (pc := 7) f_191_7 (by omega) (fun h7 => ?_) (fun h7 => ?_)
  · refine r_run 3 (pc' := 17) (ls' := [some (yr 75), some (yi x), some (yi w), none]) (st' := [yi 17, yi 0, yi x]) (M' := M) (N' := N) rfl ?_
    refine r_static (mj := 112) (as := [yi x, yi 0, yi 17]) (rest := []) f_191_17 (by decide) rfl m_112 rfl rfl rfl (Nat.le_of_ble_eq_true rfl) (by omega) (m_in (by omega) (by omega) (by omega)) ?_
    rintro _ _ _ ⟨v17, rfl, hv17, rfl, rfl⟩
    refine r_if_ne (pc := 20) f_191_20 (by omega) (fun h20 => ?_) (fun h20 => ?_)
    · refine r_run 2 (pc' := 29) (ls' := [some (yr 75), some (yi x), some (yi w), none]) (st' := [yi 10, yi x]) (M' := M) (N' := N) rfl ?_
      refine r_icmp_ge (pc := 29) f_191_29 (by omega) (by omega) (fun h29 => ?_) (fun h29 => ?_)
      · refine r_run 7 (pc' := 83) (ls' := [some (yr 75), some (yi x), some (yi w), some (yi (x - 10))]) (st' := [yi (M 75 2), yi (x - 10)]) (M' := M) (N' := N) rfl ?_
        refine r_icmp_lt (pc := 83) f_191_83 (by omega) (by omega) (fun h83 => ?_) (fun h83 => ?_)
        · refine r_run 2 (pc' := 94) (ls' := [some (yr 75), some (yi x), some (yi w), some (yi (x - 10))]) (st' := [yi 6, yi w]) (M' := M) (N' := N) rfl ?_
          refine r_icmp_ne (pc := 94) f_191_94 (by omega) (by omega) (fun h94 => ?_) (fun h94 => ?_)
          · refine r_run 1 (pc' := 123) (ls' := [some (yr 75), some (yi x), some (yi w), some (yi (x - 10))]) (st' := [yi (-13)]) (M' := M) (N' := N) rfl ?_
            refine r_iret m_191 rfl f_191_123 ?_
            exact ⟨_, rfl, by rw [if_neg (by omega), if_neg (by omega), if_neg (by omega), if_neg (by omega), if_neg (by omega), if_neg (by omega), if_neg (by omega)], rfl, rfl⟩
          · refine r_run 7 (pc' := 106) (ls' := [some (yr 75), some (yi x), some (yi w), some (yi (x - 10))]) (st' := [yi ((4 * (x - 10)) + 3), yr 77]) (M' := M) (N' := N) rfl ?_
            refine r_iald (n := 32) f_191_106 (by decide) (by decide) (by decide) (by omega) ?_
            refine r_run 7 (pc' := 116) (ls' := [some (yr 75), some (yi x), some (yi w), some (yi (x - 10))]) (st' := [yi ((4 * (x - 10)) + 2), yr 77, yi (M 77 ((4 * (x - 10)) + 3))]) (M' := M) (N' := N) rfl ?_
            refine r_iald (n := 32) f_191_116 (by decide) (by decide) (by decide) (by omega) ?_
            refine r_run 2 (pc' := 123) (ls' := [some (yr 75), some (yi x), some (yi w), some (yi (x - 10))]) (st' := [yi ((M 77 ((4 * (x - 10)) + 3)) - (M 77 ((4 * (x - 10)) + 2)))]) (M' := M) (N' := N) rfl ?_
            refine r_iret m_191 rfl f_191_123 ?_
            exact ⟨_, rfl, by rw [if_neg (by omega), if_neg (by omega), if_neg (by omega), if_neg (by omega), if_neg (by omega), if_neg (by omega), if_pos (by omega)], rfl, rfl⟩
        · refine r_run 2 (pc' := 123) (ls' := [some (yr 75), some (yi x), some (yi w), some (yi (x - 10))]) (st' := [yi (-11)]) (M' := M) (N' := N) rfl ?_
          refine r_iret m_191 rfl f_191_123 ?_
          exact ⟨_, rfl, by rw [if_neg (by omega), if_neg (by omega), if_neg (by omega), if_neg (by omega), if_neg (by omega), if_pos (by omega)], rfl, rfl⟩
      · refine r_run 3 (pc' := 37) (ls' := [some (yr 75), some (yi x), some (yi w), none]) (st' := [yi (M 75 0), yi x]) (M' := M) (N' := N) rfl ?_
        refine r_icmp_lt (pc := 37) f_191_37 (by omega) (by omega) (fun h37 => ?_) (fun h37 => ?_)
        · refine r_run 2 (pc' := 48) (ls' := [some (yr 75), some (yi x), some (yi w), none]) (st' := [yi 6, yi w]) (M' := M) (N' := N) rfl ?_
          refine r_icmp_ge (pc := 48) f_191_48 (by omega) (by omega) (fun h48 => ?_) (fun h48 => ?_)
          · refine r_run 1 (pc' := 72) (ls' := [some (yr 75), some (yi x), some (yi w), none]) (st' := [yi (-13)]) (M' := M) (N' := N) rfl ?_
            refine r_iret m_191 rfl f_191_72 ?_
            exact ⟨_, rfl, by rw [if_neg (by omega), if_neg (by omega), if_neg (by omega), if_neg (by omega), if_pos (by omega)], rfl, rfl⟩
          · refine r_run 5 (pc' := 58) (ls' := [some (yr 75), some (yi x), some (yi w), none]) (st' := [yi (5 * x), yr 76]) (M' := M) (N' := N) rfl ?_
            refine r_iald (n := 50) f_191_58 (by decide) (by decide) (by decide) (by omega) ?_
            refine r_run 1 (pc' := 60) (ls' := [some (yr 75), some (yi x), some (yi w), none]) (st' := [yi w, yi (M 76 (5 * x))]) (M' := M) (N' := N) rfl ?_
            refine r_static (mj := 190) (as := [yi (M 76 (5 * x)), yi w]) (rest := []) f_191_60 (by decide) rfl m_190 rfl rfl rfl (Nat.le_of_ble_eq_true rfl) (by omega) (m_isUnder (by omega) (by omega)) ?_
            rintro _ _ _ ⟨v60, rfl, hv60, rfl, rfl⟩
            refine r_if_eq (pc := 63) f_191_63 (by omega) (fun h63 => ?_) (fun h63 => ?_)
            · refine r_run 1 (pc' := 72) (ls' := [some (yr 75), some (yi x), some (yi w), none]) (st' := [yi (-13)]) (M' := M) (N' := N) rfl ?_
              refine r_iret m_191 rfl f_191_72 ?_
              exact ⟨_, rfl, by rw [if_neg (by omega), if_neg (by omega), if_neg (by omega), if_neg (by omega), if_pos (by omega)], rfl, rfl⟩
            · refine r_run 2 (pc' := 72) (ls' := [some (yr 75), some (yi x), some (yi w), none]) (st' := [yi x]) (M' := M) (N' := N) rfl ?_
              refine r_iret m_191 rfl f_191_72 ?_
              exact ⟨_, rfl, by rw [if_neg (by omega), if_neg (by omega), if_neg (by omega), if_pos (by omega)], rfl, rfl⟩
        · refine r_run 2 (pc' := 72) (ls' := [some (yr 75), some (yi x), some (yi w), none]) (st' := [yi (-11)]) (M' := M) (N' := N) rfl ?_
          refine r_iret m_191 rfl f_191_72 ?_
          exact ⟨_, rfl, by rw [if_neg (by omega), if_neg (by omega), if_pos (by omega)], rfl, rfl⟩
    · refine r_run 1 (pc' := 25) (ls' := [some (yr 75), some (yi x), some (yi w), none]) (st' := [yi (-12)]) (M' := M) (N' := N) rfl ?_
      refine r_iret m_191 rfl f_191_25 ?_
      exact ⟨_, rfl, by rw [if_neg (by omega), if_pos (by omega)], rfl, rfl⟩
  · refine r_run 1 (pc' := 12) (ls' := [some (yr 75), some (yi x), some (yi w), none]) (st' := [yi (-2)]) (M' := M) (N' := N) rfl ?_
    refine r_iret m_191 rfl f_191_12 ?_
    exact ⟨_, rfl, by rw [if_pos (by omega)], rfl, rfl⟩
