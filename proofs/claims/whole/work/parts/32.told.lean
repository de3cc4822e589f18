theorem yk_say {s : Int} (h : 0 ≤ s ∧ s < 10) : yk (3 + s) = (202, 5) := by
  rcases (show s = 0 ∨ s = 1 ∨ s = 2 ∨ s = 3 ∨ s = 4 ∨ s = 5 ∨ s = 6 ∨ s = 7 ∨ s = 8 ∨ s = 9 by omega) with rfl | rfl | rfl | rfl | rfl | rfl | rfl | rfl | rfl | rfl <;> decide
theorem rf_say {s : Int} (h : 0 ≤ s ∧ s < 10) : xRF 2 s.toNat = some (3 + s).toNat := by
  rcases (show s = 0 ∨ s = 1 ∨ s = 2 ∨ s = 3 ∨ s = 4 ∨ s = 5 ∨ s = 6 ∨ s = 7 ∨ s = 8 ∨ s = 9 by omega) with rfl | rfl | rfl | rfl | rfl | rfl | rfl | rfl | rfl | rfl <;> rfl
theorem yk_ksay {s : Int} (h : 0 ≤ s ∧ s < 10) : yk (15 + s) = (202, 5) := by
  rcases (show s = 0 ∨ s = 1 ∨ s = 2 ∨ s = 3 ∨ s = 4 ∨ s = 5 ∨ s = 6 ∨ s = 7 ∨ s = 8 ∨ s = 9 by omega) with rfl | rfl | rfl | rfl | rfl | rfl | rfl | rfl | rfl | rfl <;> decide
theorem rf_ksay {s : Int} (h : 0 ≤ s ∧ s < 10) : xRF 14 s.toNat = some (15 + s).toNat := by
  rcases (show s = 0 ∨ s = 1 ∨ s = 2 ∨ s = 3 ∨ s = 4 ∨ s = 5 ∨ s = 6 ∨ s = 7 ∨ s = 8 ∨ s = 9 by omega) with rfl | rfl | rfl | rfl | rfl | rfl | rfl | rfl | rfl | rfl <;> rfl
theorem yk_link {s : Int} (h : 0 ≤ s ∧ s < 8) : yk (41 + s) = (200, 4) := by
  rcases (show s = 0 ∨ s = 1 ∨ s = 2 ∨ s = 3 ∨ s = 4 ∨ s = 5 ∨ s = 6 ∨ s = 7 by omega) with rfl | rfl | rfl | rfl | rfl | rfl | rfl | rfl <;> decide
theorem rf_link {s : Int} (h : 0 ≤ s ∧ s < 8) : xRF 25 s.toNat = some (41 + s).toNat := by
  rcases (show s = 0 ∨ s = 1 ∨ s = 2 ∨ s = 3 ∨ s = 4 ∨ s = 5 ∨ s = 6 ∨ s = 7 by omega) with rfl | rfl | rfl | rfl | rfl | rfl | rfl | rfl <;> rfl
theorem yk_text {s : Int} (h : 0 ≤ s ∧ s < 6) : yk (49 + 3 * s) = (205, 4) := by
  rcases (show s = 0 ∨ s = 1 ∨ s = 2 ∨ s = 3 ∨ s = 4 ∨ s = 5 by omega) with rfl | rfl | rfl | rfl | rfl | rfl <;> decide
theorem rf_text {s : Int} (h : 0 ≤ s ∧ s < 6) : xRF 26 s.toNat = some (49 + 3 * s).toNat := by
  rcases (show s = 0 ∨ s = 1 ∨ s = 2 ∨ s = 3 ∨ s = 4 ∨ s = 5 by omega) with rfl | rfl | rfl | rfl | rfl | rfl <;> rfl
theorem yk_tcode {s : Int} (h : 0 ≤ s ∧ s < 6) : yk (50 + 3 * s) = (0, 160) := by
  rcases (show s = 0 ∨ s = 1 ∨ s = 2 ∨ s = 3 ∨ s = 4 ∨ s = 5 by omega) with rfl | rfl | rfl | rfl | rfl | rfl <;> decide
theorem yk_tends {s : Int} (h : 0 ≤ s ∧ s < 6) : yk (51 + 3 * s) = (0, 3) := by
  rcases (show s = 0 ∨ s = 1 ∨ s = 2 ∨ s = 3 ∨ s = 4 ∨ s = 5 by omega) with rfl | rfl | rfl | rfl | rfl | rfl <;> decide
theorem yk_sheet {s : Int} (h : 0 ≤ s ∧ s < 4) : yk (67 + 2 * s) = (203, 3) := by
  rcases (show s = 0 ∨ s = 1 ∨ s = 2 ∨ s = 3 by omega) with rfl | rfl | rfl | rfl <;> decide
theorem rf_sheet {s : Int} (h : 0 ≤ s ∧ s < 4) : xRF 32 s.toNat = some (67 + 2 * s).toNat := by
  rcases (show s = 0 ∨ s = 1 ∨ s = 2 ∨ s = 3 by omega) with rfl | rfl | rfl | rfl <;> rfl
theorem yk_scell {s : Int} (h : 0 ≤ s ∧ s < 4) : yk (68 + 2 * s) = (0, 40) := by
  rcases (show s = 0 ∨ s = 1 ∨ s = 2 ∨ s = 3 by omega) with rfl | rfl | rfl | rfl <;> decide
theorem rf_scell {s : Int} (h : 0 ≤ s ∧ s < 4) : xRF (67 + 2 * s).toNat 0 = some (68 + 2 * s).toNat := by
  rcases (show s = 0 ∨ s = 1 ∨ s = 2 ∨ s = 3 by omega) with rfl | rfl | rfl | rfl <;> rfl
theorem rf_tcode {s : Int} (h : 0 ≤ s ∧ s < 6) : xRF (49 + 3 * s).toNat 0 = some (50 + 3 * s).toNat := by
  rcases (show s = 0 ∨ s = 1 ∨ s = 2 ∨ s = 3 ∨ s = 4 ∨ s = 5 by omega) with rfl | rfl | rfl | rfl | rfl | rfl <;> rfl
theorem rf_tends {s : Int} (h : 0 ≤ s ∧ s < 6) : xRF (49 + 3 * s).toNat 2 = some (51 + 3 * s).toNat := by
  rcases (show s = 0 ∨ s = 1 ∨ s = 2 ∨ s = 3 ∨ s = 4 ∨ s = 5 by omega) with rfl | rfl | rfl | rfl | rfl | rfl <;> rfl
/-- the sayings of both, alike; the year -/
def InvS (M : YM) : Prop := M 1 1 = M 75 0 ∧ (0 ≤ M 75 0 ∧ M 75 0 ≤ 10) ∧ M 1 3 = M 75 4 ∧ (0 ≤ M 75 4 ∧ M 75 4 ≤ 99) ∧
  ∀ s : Int, 0 ≤ s → s < M 75 0 → (M (3 + s) 0 = M 76 (5 * s) ∧ M (3 + s) 1 = M 76 (5 * s + 4) ∧ M (3 + s) 2 = M 76 (5 * s + 1) ∧ M (3 + s) 3 = M 76 (5 * s + 2) ∧ M (3 + s) 4 = M 76 (5 * s + 3)) ∧ sOk (M 76 (5 * s)) (M 76 (5 * s + 4)) (M 76 (5 * s + 2)) (M 76 (5 * s + 3)) ∧ 0 ≤ M 76 (5 * s + 1) ∧ M 76 (5 * s + 1) ≤ 5
theorem InvS.ok {M : YM} (h : InvS M) {s : Int} (h0 : 0 ≤ s) (h1 : s < M 75 0) : sOk (M (3 + s) 0) (M (3 + s) 1) (M (3 + s) 3) (M (3 + s) 4) := by
  obtain ⟨⟨a, b, c, d, e⟩, f, -⟩ := h.2.2.2.2 s h0 h1
  rw [a, b, d, e]
  exact f
theorem c_told {S : XS} {M N : YM} {x y : Int} (hI : InvS M) (hx : -2147483648 ≤ x ∧ x < 2147483648) (hy : -2147483648 ≤ y ∧ y < 2147483648) : rm S 2 59 [yr 0, yi x, yi y] M N (fun r M' N' => ∃ v : Int, some (yi v) = r ∧ (v = if x < 0 ∨ M 75 0 ≤ x then -5 else if y = 0 then M 76 (5 * x) else if y = 1 then M 76 (5 * x + 1) else if y = 2 then M 76 (5 * x + 2) else if y = 3 then M 76 (5 * x + 3) else if y = 4 then M 76 (5 * x + 4) else if y = 5 then sFrom (M 76 (5 * x)) (M 76 (5 * x + 4)) (M 76 (5 * x + 2)) (M 76 (5 * x + 3)) (M 75 4) else if y = 6 then sUpTo (M 76 (5 * x)) (M 76 (5 * x + 4)) (M 76 (5 * x + 2)) (M 76 (5 * x + 3)) (M 75 4) else -7) ∧ M = M' ∧ N = N') := by
  refine ⟨xe_59, m_59, Nat.le_of_ble_eq_true rfl, ?_⟩
  obtain ⟨g0, g1, g2, g3, -⟩ := id hI
  refine r_run 2 (pc' := 2) (ls' := [some (yr 0), some (yi x), some (yi y), none]) (st' := [yi x, yr 0]) (M' := M) (N' := N) rfl ?_
  refine r_virtual (mj := 95) (b := 0) (as := [yi x]) (rest := []) f_59_2 (by decide) rfl m_95 (by decide) (by decide) (by decide) rfl rfl (Nat.le_of_ble_eq_true rfl) (by omega) (c_isSaying (by omega) (by omega)) ?_
  rintro _ _ _ ⟨v2, rfl, hv2, rfl, rfl⟩
  refine r_if_ne (pc := 5) f_59_5 (by omega) (fun h5 => ?_) (fun h5 => ?_)
  · refine r_run 4 (pc' := 19) (ls' := [some (yr 0), some (yi x), some (yi y), none]) (st' := [yi x, yr 2]) (M' := M) (N' := N) rfl ?_
    refine r_aald (r := 3 + x) (kd := 102) (n := 10) f_59_19 (by decide) (by decide) (by decide) (by decide) (by omega) (rf_say (by omega)) ?_
    refine r_run 2 (pc' := 22) (ls' := [some (yr 0), some (yi x), some (yi y), some (yr (3 + x))]) (st' := [yi y]) (M' := M) (N' := N) rfl ?_
    rcases (show (y < 0 ∨ 6 < y) ∨ y = 0 ∨ y = 1 ∨ y = 2 ∨ y = 3 ∨ y = 4 ∨ y = 5 ∨ y = 6 by omega) with h22 | h22 | h22 | h22 | h22 | h22 | h22 | h22
    · refine r_sw_out (pc := 22) f_59_22 (by omega) h22 ?_
      refine r_run 1 (pc' := 115) (ls' := [some (yr 0), some (yi x), some (yi y), some (yr (3 + x))]) (st' := [yi (-7)]) (M' := M) (N' := N) rfl ?_
      refine r_iret m_59 rfl f_59_115 ?_
      obtain ⟨⟨e0, e1, e2, e3, e4⟩, -, -⟩ := hI.2.2.2.2 x (by omega) (by omega)
      exact ⟨_, rfl, by rw [if_neg (by omega), if_neg (by omega), if_neg (by omega), if_neg (by omega), if_neg (by omega), if_neg (by omega), if_neg (by omega), if_neg (by omega)], rfl, rfl⟩
    · refine r_sw_in (pc := 22) 0 f_59_22 (by omega) (by omega) (by omega) rfl ?_
      refine r_run 1 (pc' := 65) (ls' := [some (yr 0), some (yi x), some (yi y), some (yr (3 + x))]) (st' := [yr (3 + x)]) (M' := M) (N' := N) rfl ?_
      refine r_getf (n := 5) 0 rfl f_59_65 (by decide) (show xFT[12]? = some (2, 0) from rfl) (by decide) (by omega) (yk_say (by omega)) ?_
      refine r_iret m_59 rfl f_59_68 ?_
      obtain ⟨⟨e0, e1, e2, e3, e4⟩, -, -⟩ := hI.2.2.2.2 x (by omega) (by omega)
      exact ⟨_, rfl, by rw [if_neg (by omega), if_pos (by omega)]; omega, rfl, rfl⟩
    · refine r_sw_in (pc := 22) 1 f_59_22 (by omega) (by omega) (by omega) rfl ?_
      refine r_run 1 (pc' := 70) (ls' := [some (yr 0), some (yi x), some (yi y), some (yr (3 + x))]) (st' := [yr (3 + x)]) (M' := M) (N' := N) rfl ?_
      refine r_getf (n := 5) 2 rfl f_59_70 (by decide) (show xFT[14]? = some (2, 2) from rfl) (by decide) (by omega) (yk_say (by omega)) ?_
      refine r_iret m_59 rfl f_59_73 ?_
      obtain ⟨⟨e0, e1, e2, e3, e4⟩, -, -⟩ := hI.2.2.2.2 x (by omega) (by omega)
      exact ⟨_, rfl, by rw [if_neg (by omega), if_neg (by omega), if_pos (by omega)]; omega, rfl, rfl⟩
    · refine r_sw_in (pc := 22) 2 f_59_22 (by omega) (by omega) (by omega) rfl ?_
      refine r_run 1 (pc' := 75) (ls' := [some (yr 0), some (yi x), some (yi y), some (yr (3 + x))]) (st' := [yr (3 + x)]) (M' := M) (N' := N) rfl ?_
      refine r_getf (n := 5) 3 rfl f_59_75 (by decide) (show xFT[15]? = some (2, 3) from rfl) (by decide) (by omega) (yk_say (by omega)) ?_
      refine r_iret m_59 rfl f_59_78 ?_
      obtain ⟨⟨e0, e1, e2, e3, e4⟩, -, -⟩ := hI.2.2.2.2 x (by omega) (by omega)
      exact ⟨_, rfl, by rw [if_neg (by omega), if_neg (by omega), if_neg (by omega), if_pos (by omega)]; omega, rfl, rfl⟩
    · refine r_sw_in (pc := 22) 3 f_59_22 (by omega) (by omega) (by omega) rfl ?_
      refine r_run 1 (pc' := 80) (ls' := [some (yr 0), some (yi x), some (yi y), some (yr (3 + x))]) (st' := [yr (3 + x)]) (M' := M) (N' := N) rfl ?_
      refine r_getf (n := 5) 4 rfl f_59_80 (by decide) (show xFT[16]? = some (2, 4) from rfl) (by decide) (by omega) (yk_say (by omega)) ?_
      refine r_iret m_59 rfl f_59_83 ?_
      obtain ⟨⟨e0, e1, e2, e3, e4⟩, -, -⟩ := hI.2.2.2.2 x (by omega) (by omega)
      exact ⟨_, rfl, by rw [if_neg (by omega), if_neg (by omega), if_neg (by omega), if_neg (by omega), if_pos (by omega)]; omega, rfl, rfl⟩
    · refine r_sw_in (pc := 22) 4 f_59_22 (by omega) (by omega) (by omega) rfl ?_
      refine r_run 1 (pc' := 85) (ls' := [some (yr 0), some (yi x), some (yi y), some (yr (3 + x))]) (st' := [yr (3 + x)]) (M' := M) (N' := N) rfl ?_
      refine r_getf (n := 5) 1 rfl f_59_85 (by decide) (show xFT[13]? = some (2, 1) from rfl) (by decide) (by omega) (yk_say (by omega)) ?_
      refine r_iret m_59 rfl f_59_88 ?_
      obtain ⟨⟨e0, e1, e2, e3, e4⟩, -, -⟩ := hI.2.2.2.2 x (by omega) (by omega)
      exact ⟨_, rfl, by rw [if_neg (by omega), if_neg (by omega), if_neg (by omega), if_neg (by omega), if_neg (by omega), if_pos (by omega)]; omega, rfl, rfl⟩
    · refine r_sw_in (pc := 22) 5 f_59_22 (by omega) (by omega) (by omega) rfl ?_
      refine r_run 4 (pc' := 97) (ls' := [some (yr 0), some (yi x), some (yi y), some (yr (3 + x))]) (st' := [yi (M 1 3), yr (3 + x)]) (M' := M) (N' := N) rfl ?_
      refine r_virtual (mj := 23) (b := 3 + x) (as := [yi (M 1 3)]) (rest := []) f_59_97 (by decide) rfl m_23 (by decide) (by omega) (by rw [(yk_say (by omega))]; rfl) rfl rfl (Nat.le_of_ble_eq_true rfl) (by omega) (c_from (by omega) (yk_say (by omega)) (hI.ok (by omega) (by omega)) (by omega)) ?_
      rintro _ _ _ ⟨v97, rfl, hv97, rfl, rfl⟩
      refine r_iret m_59 rfl f_59_100 ?_
      obtain ⟨⟨e0, e1, e2, e3, e4⟩, -, -⟩ := hI.2.2.2.2 x (by omega) (by omega)
      rw [e0, e1, e3, e4, hI.2.2.1] at hv97
      exact ⟨_, rfl, by rw [if_neg (by omega), if_neg (by omega), if_neg (by omega), if_neg (by omega), if_neg (by omega), if_neg (by omega), if_pos (by omega)]; omega, rfl, rfl⟩
    · refine r_sw_in (pc := 22) 6 f_59_22 (by omega) (by omega) (by omega) rfl ?_
      refine r_run 4 (pc' := 109) (ls' := [some (yr 0), some (yi x), some (yi y), some (yr (3 + x))]) (st' := [yi (M 1 3), yr (3 + x)]) (M' := M) (N' := N) rfl ?_
      refine r_virtual (mj := 24) (b := 3 + x) (as := [yi (M 1 3)]) (rest := []) f_59_109 (by decide) rfl m_24 (by decide) (by omega) (by rw [(yk_say (by omega))]; rfl) rfl rfl (Nat.le_of_ble_eq_true rfl) (by omega) (c_upTo (by omega) (yk_say (by omega)) (hI.ok (by omega) (by omega)) (by omega)) ?_
      rintro _ _ _ ⟨v109, rfl, hv109, rfl, rfl⟩
      refine r_iret m_59 rfl f_59_112 ?_
      obtain ⟨⟨e0, e1, e2, e3, e4⟩, -, -⟩ := hI.2.2.2.2 x (by omega) (by omega)
      rw [e0, e1, e3, e4, hI.2.2.1] at hv109
      exact ⟨_, rfl, by rw [if_neg (by omega), if_neg (by omega), if_neg (by omega), if_neg (by omega), if_neg (by omega), if_neg (by omega), if_neg (by omega), if_pos (by omega)]; omega, rfl, rfl⟩
  · refine r_run 1 (pc' := 10) (ls' := [some (yr 0), some (yi x), some (yi y), none]) (st' := [yi (-5)]) (M' := M) (N' := N) rfl ?_
    refine r_iret m_59 rfl f_59_10 ?_
    exact ⟨_, rfl, by rw [if_pos (by omega)], rfl, rfl⟩
theorem m_told {S : XS} {M N : YM} {x y : Int} (hI : InvS M) (hx : -2147483648 ≤ x ∧ x < 2147483648) (hy : -2147483648 ≤ y ∧ y < 2147483648) : rm S 2 142 [yr 75, yi x, yi y] M N (fun r M' N' => ∃ v : Int, some (yi v) = r ∧ (v = if x < 0 ∨ M 75 0 ≤ x then -5 else if y = 0 then M 76 (5 * x) else if y = 1 then M 76 (5 * x + 1) else if y = 2 then M 76 (5 * x + 2) else if y = 3 then M 76 (5 * x + 3) else if y = 4 then M 76 (5 * x + 4) else if y = 5 then sFrom (M 76 (5 * x)) (M 76 (5 * x + 4)) (M 76 (5 * x + 2)) (M 76 (5 * x + 3)) (M 75 4) else if y = 6 then sUpTo (M 76 (5 * x)) (M 76 (5 * x + 4)) (M 76 (5 * x + 2)) (M 76 (5 * x + 3)) (M 75 4) else -7) ∧ M = M' ∧ N = N') := by
  refine ⟨xe_142, m_142, Nat.le_of_ble_eq_true rfl, ?_⟩
  obtain ⟨g0, g1, g2, g3, -⟩ := id hI
  refine r_run 2 (pc' := 2) (ls' := [some (yr 75), some (yi x), some (yi y)]) (st' := [yi x, yr 75]) (M' := M) (N' := N) rfl ?_
  refine r_virtual (mj := 114) (b := 75) (as := [yi x]) (rest := []) f_142_2 (by decide) rfl m_114 (by decide) (by decide) (by decide) rfl rfl (Nat.le_of_ble_eq_true rfl) (by omega) (m_isSaying (by omega) (by omega)) ?_
  rintro _ _ _ ⟨v2, rfl, hv2, rfl, rfl⟩
  refine r_if_ne (pc := 5) f_142_5 (by omega) (fun h5 => ?_) (fun h5 => ?_)
  · refine r_run 1 (pc' := 12) (ls' := [some (yr 75), some (yi x), some (yi y)]) (st' := [yi y]) (M' := M) (N' := N) rfl ?_
    rcases (show (y < 0 ∨ 6 < y) ∨ y = 0 ∨ y = 1 ∨ y = 2 ∨ y = 3 ∨ y = 4 ∨ y = 5 ∨ y = 6 by omega) with h12 | h12 | h12 | h12 | h12 | h12 | h12 | h12
    · refine r_sw_out (pc := 12) f_142_12 (by omega) h12 ?_
      refine r_run 1 (pc' := 81) (ls' := [some (yr 75), some (yi x), some (yi y)]) (st' := [yi (-7)]) (M' := M) (N' := N) rfl ?_
      refine r_iret m_142 rfl f_142_81 ?_
      exact ⟨_, rfl, by rw [if_neg (by omega), if_neg (by omega), if_neg (by omega), if_neg (by omega), if_neg (by omega), if_neg (by omega), if_neg (by omega), if_neg (by omega)], rfl, rfl⟩
    · refine r_sw_in (pc := 12) 0 f_142_12 (by omega) (by omega) (by omega) rfl ?_
      refine r_run 7 (pc' := 65) (ls' := [some (yr 75), some (yi x), some (yi y)]) (st' := [yi ((5 * x) + y), yr 76]) (M' := M) (N' := N) rfl ?_
      refine r_iald (n := 50) f_142_65 (by decide) (by decide) (by decide) (by omega) ?_
      refine r_iret m_142 rfl f_142_66 ?_
      have hy0 : y = 0 := by omega
      subst hy0
      exact ⟨_, rfl, by rw [if_neg (by omega), if_pos (by omega)]; rw [Int.add_zero], rfl, rfl⟩
    · refine r_sw_in (pc := 12) 1 f_142_12 (by omega) (by omega) (by omega) rfl ?_
      refine r_run 7 (pc' := 65) (ls' := [some (yr 75), some (yi x), some (yi y)]) (st' := [yi ((5 * x) + y), yr 76]) (M' := M) (N' := N) rfl ?_
      refine r_iald (n := 50) f_142_65 (by decide) (by decide) (by decide) (by omega) ?_
      refine r_iret m_142 rfl f_142_66 ?_
      have hy0 : y = 1 := by omega
      subst hy0
      exact ⟨_, rfl, by rw [if_neg (by omega), if_neg (by omega), if_pos (by omega)], rfl, rfl⟩
    · refine r_sw_in (pc := 12) 2 f_142_12 (by omega) (by omega) (by omega) rfl ?_
      refine r_run 7 (pc' := 65) (ls' := [some (yr 75), some (yi x), some (yi y)]) (st' := [yi ((5 * x) + y), yr 76]) (M' := M) (N' := N) rfl ?_
      refine r_iald (n := 50) f_142_65 (by decide) (by decide) (by decide) (by omega) ?_
      refine r_iret m_142 rfl f_142_66 ?_
      have hy0 : y = 2 := by omega
      subst hy0
      exact ⟨_, rfl, by rw [if_neg (by omega), if_neg (by omega), if_neg (by omega), if_pos (by omega)], rfl, rfl⟩
    · refine r_sw_in (pc := 12) 3 f_142_12 (by omega) (by omega) (by omega) rfl ?_
      refine r_run 7 (pc' := 65) (ls' := [some (yr 75), some (yi x), some (yi y)]) (st' := [yi ((5 * x) + y), yr 76]) (M' := M) (N' := N) rfl ?_
      refine r_iald (n := 50) f_142_65 (by decide) (by decide) (by decide) (by omega) ?_
      refine r_iret m_142 rfl f_142_66 ?_
      have hy0 : y = 3 := by omega
      subst hy0
      exact ⟨_, rfl, by rw [if_neg (by omega), if_neg (by omega), if_neg (by omega), if_neg (by omega), if_pos (by omega)], rfl, rfl⟩
    · refine r_sw_in (pc := 12) 4 f_142_12 (by omega) (by omega) (by omega) rfl ?_
      refine r_run 7 (pc' := 65) (ls' := [some (yr 75), some (yi x), some (yi y)]) (st' := [yi ((5 * x) + y), yr 76]) (M' := M) (N' := N) rfl ?_
      refine r_iald (n := 50) f_142_65 (by decide) (by decide) (by decide) (by omega) ?_
      refine r_iret m_142 rfl f_142_66 ?_
      have hy0 : y = 4 := by omega
      subst hy0
      exact ⟨_, rfl, by rw [if_neg (by omega), if_neg (by omega), if_neg (by omega), if_neg (by omega), if_neg (by omega), if_pos (by omega)], rfl, rfl⟩
    · refine r_sw_in (pc := 12) 5 f_142_12 (by omega) (by omega) (by omega) rfl ?_
      refine r_run 2 (pc' := 69) (ls' := [some (yr 75), some (yi x), some (yi y)]) (st' := [yi x, yr 75]) (M' := M) (N' := N) rfl ?_
      refine r_virtual (mj := 140) (b := 75) (as := [yi x]) (rest := []) f_142_69 (by decide) rfl m_140 (by decide) (by decide) (by decide) rfl rfl (Nat.le_of_ble_eq_true rfl) (by omega) (m_fromOf (by omega) (hI.2.2.2.2 x (by omega) (by omega)).2.1 (by omega)) ?_
      rintro _ _ _ ⟨v69, rfl, hv69, rfl, rfl⟩
      refine r_iret m_142 rfl f_142_72 ?_
      exact ⟨_, rfl, by rw [if_neg (by omega), if_neg (by omega), if_neg (by omega), if_neg (by omega), if_neg (by omega), if_neg (by omega), if_pos (by omega)]; omega, rfl, rfl⟩
    · refine r_sw_in (pc := 12) 6 f_142_12 (by omega) (by omega) (by omega) rfl ?_
      refine r_run 2 (pc' := 75) (ls' := [some (yr 75), some (yi x), some (yi y)]) (st' := [yi x, yr 75]) (M' := M) (N' := N) rfl ?_
      refine r_virtual (mj := 141) (b := 75) (as := [yi x]) (rest := []) f_142_75 (by decide) rfl m_141 (by decide) (by decide) (by decide) rfl rfl (Nat.le_of_ble_eq_true rfl) (by omega) (m_upTo (by omega) (hI.2.2.2.2 x (by omega) (by omega)).2.1 (by omega)) ?_
      rintro _ _ _ ⟨v75, rfl, hv75, rfl, rfl⟩
      refine r_iret m_142 rfl f_142_78 ?_
      exact ⟨_, rfl, by rw [if_neg (by omega), if_neg (by omega), if_neg (by omega), if_neg (by omega), if_neg (by omega), if_neg (by omega), if_neg (by omega), if_pos (by omega)]; omega, rfl, rfl⟩
  · refine r_run 1 (pc' := 10) (ls' := [some (yr 75), some (yi x), some (yi y)]) (st' := [yi (-5)]) (M' := M) (N' := N) rfl ?_
    refine r_iret m_142 rfl f_142_10 ?_
    exact ⟨_, rfl, by rw [if_pos (by omega)], rfl, rfl⟩
