/-- what a sheet of this sort keeps of v -/
def hCut (t v : Int) : Int := if t = 0 then (Int32.ofInt v).toInt8.toInt else if t = 1 then (Int32.ofInt v).toInt16.toInt else v
/-- the sheets of both, alike -/
def InvH (M : YM) : Prop := ∀ s : Int, 0 ≤ s → s < 4 → M (67 + 2 * s) 1 = M 82 s ∧ M (67 + 2 * s) 2 = M 83 s ∧ (-1 ≤ M 82 s ∧ M 82 s ≤ 2) ∧ (0 ≤ M 83 s ∧ M 83 s ≤ 40) ∧
  ∀ i : Int, 0 ≤ i → i < 40 → M (68 + 2 * s) i = M 84 (40 * s + i) ∧ (-2147483648 ≤ M 84 (40 * s + i) ∧ M 84 (40 * s + i) < 2147483648)

theorem c_hasRun {S : XS} {M N : YM} {s f n : Int} (hs : 0 ≤ s ∧ s < 4) (hz : 0 ≤ M (67 + 2 * s) 2 ∧ M (67 + 2 * s) 2 ≤ 40) (hf : -2147483648 ≤ f ∧ f < 2147483648) (hn : -2147483648 ≤ n ∧ n < 2147483648) : rm S 0 32 [yr (67 + 2 * s), yi f, yi n] M N (fun r M' N' => ∃ v : Int, some (yi v) = r ∧ ((v = 1 ∧ 0 ≤ n ∧ n ≤ M (67 + 2 * s) 2 ∧ 0 ≤ f ∧ f ≤ M (67 + 2 * s) 2 - n) ∨ (v = 0 ∧ (n < 0 ∨ M (67 + 2 * s) 2 < n ∨ f < 0 ∨ M (67 + 2 * s) 2 - n < f))) ∧ M = M' ∧ N = N') := by
  refine ⟨xe_32, m_32, Nat.le_of_ble_eq_true rfl, ?_⟩
  refine r_run 1 (pc' := 1) (ls' := [some (yr (67 + 2 * s)), some (yi f), some (yi n)]) (st' := [yi n]) (M' := M) (N' := N) rfl ?_
  refine r_if_lt (pc := 1) f_32_1 (by omega) (fun h1 => ?_) (fun h1 => ?_)
  · refine r_run 1 (pc' := 31) (ls' := [some (yr (67 + 2 * s)), some (yi f), some (yi n)]) (st' := [yi 0]) (M' := M) (N' := N) rfl ?_
    refine r_zret m_32 rfl f_32_31 (by omega) ?_
    exact ⟨_, rfl, by omega, rfl, rfl⟩
  · refine r_run 2 (pc' := 6) (ls' := [some (yr (67 + 2 * s)), some (yi f), some (yi n)]) (st' := [yr (67 + 2 * s), yi n]) (M' := M) (N' := N) rfl ?_
    refine r_getf (n := 3) 2 rfl f_32_6 (by decide) (show xFT[19]? = some (3, 2) from rfl) (by decide) (by omega) (yk_sheet (by omega)) ?_
    refine r_icmp_gt (pc := 9) f_32_9 (by omega) (by omega) (fun h9 => ?_) (fun h9 => ?_)
    · refine r_run 1 (pc' := 31) (ls' := [some (yr (67 + 2 * s)), some (yi f), some (yi n)]) (st' := [yi 0]) (M' := M) (N' := N) rfl ?_
      refine r_zret m_32 rfl f_32_31 (by omega) ?_
      exact ⟨_, rfl, by omega, rfl, rfl⟩
    · refine r_run 1 (pc' := 13) (ls' := [some (yr (67 + 2 * s)), some (yi f), some (yi n)]) (st' := [yi f]) (M' := M) (N' := N) rfl ?_
      refine r_if_lt (pc := 13) f_32_13 (by omega) (fun h13 => ?_) (fun h13 => ?_)
      · refine r_run 1 (pc' := 31) (ls' := [some (yr (67 + 2 * s)), some (yi f), some (yi n)]) (st' := [yi 0]) (M' := M) (N' := N) rfl ?_
        refine r_zret m_32 rfl f_32_31 (by omega) ?_
        exact ⟨_, rfl, by omega, rfl, rfl⟩
      · refine r_run 2 (pc' := 18) (ls' := [some (yr (67 + 2 * s)), some (yi f), some (yi n)]) (st' := [yr (67 + 2 * s), yi f]) (M' := M) (N' := N) rfl ?_
        refine r_getf (n := 3) 2 rfl f_32_18 (by decide) (show xFT[19]? = some (3, 2) from rfl) (by decide) (by omega) (yk_sheet (by omega)) ?_
        refine r_run 2 (pc' := 23) (ls' := [some (yr (67 + 2 * s)), some (yi f), some (yi n)]) (st' := [yi ((M (67 + 2 * s) 2) - n), yi f]) (M' := M) (N' := N) rfl ?_
        refine r_icmp_gt (pc := 23) f_32_23 (by omega) (by omega) (fun h23 => ?_) (fun h23 => ?_)
        · refine r_run 1 (pc' := 31) (ls' := [some (yr (67 + 2 * s)), some (yi f), some (yi n)]) (st' := [yi 0]) (M' := M) (N' := N) rfl ?_
          refine r_zret m_32 rfl f_32_31 (by omega) ?_
          exact ⟨_, rfl, by omega, rfl, rfl⟩
        · refine r_run 2 (pc' := 31) (ls' := [some (yr (67 + 2 * s)), some (yi f), some (yi n)]) (st' := [yi 1]) (M' := M) (N' := N) rfl ?_
          refine r_zret m_32 rfl f_32_31 (by omega) ?_
          exact ⟨_, rfl, by omega, rfl, rfl⟩
theorem c_put {S : XS} {M N : YM} {s i v : Int} (hs : 0 ≤ s ∧ s < 4) (ht : -1 ≤ M (67 + 2 * s) 1 ∧ M (67 + 2 * s) 1 ≤ 2) (hi : 0 ≤ i ∧ i < 40) (hv : -2147483648 ≤ v ∧ v < 2147483648) : rm S 0 31 [yr (67 + 2 * s), yi i, yi v] M N (fun r M' N' => none = r ∧ yu M (68 + 2 * s) i (hCut (M (67 + 2 * s) 1) v) = M' ∧ N = N') := by
  refine ⟨xe_31, m_31, Nat.le_of_ble_eq_true rfl, ?_⟩
  refine r_run 1 (pc' := 1) (ls' := [some (yr (67 + 2 * s)), some (yi i), some (yi v)]) (st' := [yr (67 + 2 * s)]) (M' := M) (N' := N) rfl ?_
  refine r_getr (r := 68 + 2 * s) (n := 3) f_31_1 (by decide) (show xFT[17]? = some (3, 0) from rfl) (by decide) (by omega) (yk_sheet (by omega)) (rf_scell (by omega)) ?_
  refine r_run 2 (pc' := 6) (ls' := [some (yr (67 + 2 * s)), some (yi i), some (yi v)]) (st' := [yr (67 + 2 * s), yi i, yr (68 + 2 * s)]) (M' := M) (N' := N) rfl ?_
  refine r_getf (n := 3) 1 rfl f_31_6 (by decide) (show xFT[18]? = some (3, 1) from rfl) (by decide) (by omega) (yk_sheet (by omega)) ?_
  refine r_if_ne (pc := 9) f_31_9 (by omega) (fun h9 => ?_) (fun h9 => ?_)
  · refine r_run 1 (pc' := 18) (ls' := [some (yr (67 + 2 * s)), some (yi i), some (yi v)]) (st' := [yr (67 + 2 * s), yi i, yr (68 + 2 * s)]) (M' := M) (N' := N) rfl ?_
    refine r_getf (n := 3) 1 rfl f_31_18 (by decide) (show xFT[18]? = some (3, 1) from rfl) (by decide) (by omega) (yk_sheet (by omega)) ?_
    refine r_run 1 (pc' := 22) (ls' := [some (yr (67 + 2 * s)), some (yi i), some (yi v)]) (st' := [yi 1, yi (M (67 + 2 * s) 1), yi i, yr (68 + 2 * s)]) (M' := M) (N' := N) rfl ?_
    refine r_icmp_ne (pc := 22) f_31_22 (by omega) (by omega) (fun h22 => ?_) (fun h22 => ?_)
    · refine r_run 1 (pc' := 31) (ls' := [some (yr (67 + 2 * s)), some (yi i), some (yi v)]) (st' := [yi v, yi i, yr (68 + 2 * s)]) (M' := M) (N' := N) rfl ?_
      refine r_iast (n := 40) f_31_31 (by omega) (yk_scell (by omega)) (by decide) (by omega) ?_
      refine r_vret m_31 rfl f_31_32 ?_
      exact ⟨rfl, by unfold hCut; rw [if_neg (by omega), if_neg (by omega)], rfl⟩
    · refine r_run 3 (pc' := 31) (ls' := [some (yr (67 + 2 * s)), some (yi i), some (yi v)]) (st' := [yi ((Int32.ofInt v).toInt16.toInt), yi i, yr (68 + 2 * s)]) (M' := M) (N' := N) rfl ?_
      refine r_iast (n := 40) f_31_31 (by omega) (yk_scell (by omega)) (by decide) (by omega) ?_
      refine r_vret m_31 rfl f_31_32 ?_
      exact ⟨rfl, by unfold hCut; rw [if_neg (by omega), if_pos (by omega)], rfl⟩
  · refine r_run 3 (pc' := 31) (ls' := [some (yr (67 + 2 * s)), some (yi i), some (yi v)]) (st' := [yi ((Int32.ofInt v).toInt8.toInt), yi i, yr (68 + 2 * s)]) (M' := M) (N' := N) rfl ?_
    refine r_iast (n := 40) f_31_31 (by omega) (yk_scell (by omega)) (by decide) (by omega) ?_
    refine r_vret m_31 rfl f_31_32 ?_
    exact ⟨rfl, by unfold hCut; rw [if_pos (by omega)], rfl⟩
theorem c_cell {S : XS} {M N : YM} {s i v : Int} (hI : InvH M) (hs : -2147483648 ≤ s ∧ s < 2147483648) (hi : -2147483648 ≤ i ∧ i < 2147483648) (hv : -2147483648 ≤ v ∧ v < 2147483648) : rm S 2 86 [yr 0, yi s, yi i, yi v] M N (fun r M' N' => ∃ v' : Int, some (yi v') = r ∧ ((v' = (if s < 0 ∨ 3 < s then -2 else if M 82 s = -1 then -11 else if i < 0 ∨ M 83 s ≤ i then -12 else 1)) ∧ (if v' = 1 then yu M (68 + 2 * s) i (hCut (M (67 + 2 * s) 1) v) else M) = M') ∧ N = N') := by
  refine ⟨xe_86, m_86, Nat.le_of_ble_eq_true rfl, ?_⟩
  have hE : 0 ≤ s → s < 4 → M (67 + 2 * s) 1 = M 82 s ∧ M (67 + 2 * s) 2 = M 83 s ∧ (-1 ≤ M 82 s ∧ M 82 s ≤ 2) ∧ (0 ≤ M 83 s ∧ M 83 s ≤ 40) := fun h0 h1 => by
    obtain ⟨e1, e2, e3, e4, -⟩ := hI s h0 h1
    exact ⟨e1, e2, e3, e4⟩
  refine r_run 1 (pc' := 1) (ls' := [some (yr 0), some (yi s), some (yi i), some (yi v)]) (st' := [yi s]) (M' := M) (N' := N) rfl ?_
  refine r_static (mj := 93) (as := [yi s]) (rest := []) f_86_1 (by decide) rfl m_93 rfl rfl rfl (Nat.le_of_ble_eq_true rfl) (by omega) (c_isSheet (by omega)) ?_
  rintro _ _ _ ⟨v1, rfl, hv1, rfl, rfl⟩
  refine r_if_ne (pc := 4) f_86_4 (by omega) (fun h4 => ?_) (fun h4 => ?_)
  · refine r_run 3 (pc' := 15) (ls' := [some (yr 0), some (yi s), some (yi i), some (yi v)]) (st' := [yi s, yr 32]) (M' := M) (N' := N) rfl ?_
    refine r_aald (r := 67 + 2 * s) (kd := 103) (n := 4) f_86_15 (by decide) (by decide) (by decide) (by decide) (by omega) (rf_sheet (by omega)) ?_
    refine r_getf (n := 3) 1 rfl f_86_16 (by decide) (show xFT[18]? = some (3, 1) from rfl) (by decide) (by omega) (yk_sheet (by omega)) ?_
    refine r_run 1 (pc' := 20) (ls' := [some (yr 0), some (yi s), some (yi i), some (yi v)]) (st' := [yi (-1), yi (M (67 + 2 * s) 1)]) (M' := M) (N' := N) rfl ?_
    refine r_icmp_ne (pc := 20) f_86_20 (by omega) (by omega) (fun h20 => ?_) (fun h20 => ?_)
    · refine r_run 5 (pc' := 33) (ls' := [some (yr 0), some (yi s), some (yi i), some (yi v)]) (st' := [yi s, yr 32, yi 0, yi i]) (M' := M) (N' := N) rfl ?_
      refine r_aald (r := 67 + 2 * s) (kd := 103) (n := 4) f_86_33 (by decide) (by decide) (by decide) (by decide) (by omega) (rf_sheet (by omega)) ?_
      refine r_getf (n := 3) 2 rfl f_86_34 (by decide) (show xFT[19]? = some (3, 2) from rfl) (by decide) (by omega) (yk_sheet (by omega)) ?_
      refine r_run 2 (pc' := 39) (ls' := [some (yr 0), some (yi s), some (yi i), some (yi v)]) (st' := [yi ((M (67 + 2 * s) 2) - 1), yi 0, yi i]) (M' := M) (N' := N) rfl ?_
      refine r_static (mj := 90) (as := [yi i, yi 0, yi ((M (67 + 2 * s) 2) - 1)]) (rest := []) f_86_39 (by decide) rfl m_90 rfl rfl rfl (Nat.le_of_ble_eq_true rfl) (by omega) (c_within (by omega) (by omega) (by omega)) ?_
      rintro _ _ _ ⟨v39, rfl, hv39, rfl, rfl⟩
      refine r_if_ne (pc := 42) f_86_42 (by omega) (fun h42 => ?_) (fun h42 => ?_)
      · refine r_run 3 (pc' := 53) (ls' := [some (yr 0), some (yi s), some (yi i), some (yi v)]) (st' := [yi s, yr 32]) (M' := M) (N' := N) rfl ?_
        refine r_aald (r := 67 + 2 * s) (kd := 103) (n := 4) f_86_53 (by decide) (by decide) (by decide) (by decide) (by omega) (rf_sheet (by omega)) ?_
        refine r_run 2 (pc' := 56) (ls' := [some (yr 0), some (yi s), some (yi i), some (yi v)]) (st' := [yi v, yi i, yr (67 + 2 * s)]) (M' := M) (N' := N) rfl ?_
        refine r_virtual (mj := 31) (b := 67 + 2 * s) (as := [yi i, yi v]) (rest := []) f_86_56 (by decide) rfl m_31 (by decide) (by omega) (by rw [(yk_sheet (by omega))]; rfl) rfl rfl (Nat.le_of_ble_eq_true rfl) (by omega) (c_put (by omega) (by omega) (by omega) (by omega)) ?_
        rintro _ M2 _ ⟨rfl, hM2, rfl⟩
        refine r_run 1 (pc' := 60) (ls' := [some (yr 0), some (yi s), some (yi i), some (yi v)]) (st' := [yi 1]) (M' := M2) (N' := N) rfl ?_
        refine r_iret m_86 rfl f_86_60 ?_
        exact ⟨_, rfl, ⟨by rw [if_neg (by omega), if_neg (by omega), if_neg (by omega)], by rw [if_pos rfl, ← hM2]⟩, rfl⟩
      · refine r_run 1 (pc' := 47) (ls' := [some (yr 0), some (yi s), some (yi i), some (yi v)]) (st' := [yi (-12)]) (M' := M) (N' := N) rfl ?_
        refine r_iret m_86 rfl f_86_47 ?_
        exact ⟨_, rfl, ⟨by rw [if_neg (by omega), if_neg (by omega), if_pos (by omega)], by rw [if_neg (by omega)]⟩, rfl⟩
    · refine r_run 1 (pc' := 25) (ls' := [some (yr 0), some (yi s), some (yi i), some (yi v)]) (st' := [yi (-11)]) (M' := M) (N' := N) rfl ?_
      refine r_iret m_86 rfl f_86_25 ?_
      exact ⟨_, rfl, ⟨by rw [if_neg (by omega), if_pos (by omega)], by rw [if_neg (by omega)]⟩, rfl⟩
  · refine r_run 1 (pc' := 9) (ls' := [some (yr 0), some (yi s), some (yi i), some (yi v)]) (st' := [yi (-2)]) (M' := M) (N' := N) rfl ?_
    refine r_iret m_86 rfl f_86_9 ?_
    exact ⟨_, rfl, ⟨by rw [if_pos (by omega)], by rw [if_neg (by omega)]⟩, rfl⟩
theorem m_cell {S : XS} {M N : YM} {s i v : Int} (hE : ∀ s : Int, 0 ≤ s → s < 4 → (-1 ≤ M 82 s ∧ M 82 s ≤ 2) ∧ (0 ≤ M 83 s ∧ M 83 s ≤ 40)) (hs : -2147483648 ≤ s ∧ s < 2147483648) (hi : -2147483648 ≤ i ∧ i < 2147483648) (hv : -2147483648 ≤ v ∧ v < 2147483648) : rm S 1 187 [yr 75, yi s, yi i, yi v] M N (fun r M' N' => ∃ v' : Int, some (yi v') = r ∧ ((v' = (if s < 0 ∨ 3 < s then -2 else if M 82 s = -1 then -11 else if i < 0 ∨ M 83 s ≤ i then -12 else 1)) ∧ (if v' = 1 then yu M 84 (40 * s + i) (hCut (M 82 s) v) else M) = M') ∧ N = N') := by
  refine ⟨xe_187, m_187, Nat.le_of_ble_eq_true rfl, ?_⟩
  have hE := hE s
  refine r_run 3 (pc' := 3) (ls' := [some (yr 75), some (yi s), some (yi i), some (yi v)]) (st' := [yi 3, yi 0, yi s]) (M' := M) (N' := N) rfl ?_
  refine r_static (mj := 112) (as := [yi s, yi 0, yi 3]) (rest := []) f_187_3 (by decide) rfl m_112 rfl rfl rfl (Nat.le_of_ble_eq_true rfl) (by omega) (m_in (by omega) (by omega) (by omega)) ?_
  rintro _ _ _ ⟨v3, rfl, hv3, rfl, rfl⟩
  refine r_if_ne (pc := 6) f_187_6 (by omega) (fun h6 => ?_) (fun h6 => ?_)
  · refine r_run 3 (pc' := 17) (ls' := [some (yr 75), some (yi s), some (yi i), some (yi v)]) (st' := [yi s, yr 82]) (M' := M) (N' := N) rfl ?_
    refine r_iald (n := 4) f_187_17 (by decide) (by decide) (by decide) (by omega) ?_
    refine r_run 1 (pc' := 19) (ls' := [some (yr 75), some (yi s), some (yi i), some (yi v)]) (st' := [yi (-1), yi (M 82 s)]) (M' := M) (N' := N) rfl ?_
    refine r_icmp_ne (pc := 19) f_187_19 (by omega) (by omega) (fun h19 => ?_) (fun h19 => ?_)
    · refine r_run 5 (pc' := 32) (ls' := [some (yr 75), some (yi s), some (yi i), some (yi v)]) (st' := [yi s, yr 83, yi 0, yi i]) (M' := M) (N' := N) rfl ?_
      refine r_iald (n := 4) f_187_32 (by decide) (by decide) (by decide) (by omega) ?_
      refine r_run 2 (pc' := 35) (ls' := [some (yr 75), some (yi s), some (yi i), some (yi v)]) (st' := [yi ((M 83 s) - 1), yi 0, yi i]) (M' := M) (N' := N) rfl ?_
      refine r_static (mj := 112) (as := [yi i, yi 0, yi ((M 83 s) - 1)]) (rest := []) f_187_35 (by decide) rfl m_112 rfl rfl rfl (Nat.le_of_ble_eq_true rfl) (by omega) (m_in (by omega) (by omega) (by omega)) ?_
      rintro _ _ _ ⟨v35, rfl, hv35, rfl, rfl⟩
      refine r_if_ne (pc := 38) f_187_38 (by omega) (fun h38 => ?_) (fun h38 => ?_)
      · refine r_run 10 (pc' := 59) (ls' := [some (yr 75), some (yi s), some (yi i), some (yi v)]) (st' := [yi s, yr 82, yi ((40 * s) + i), yr 84]) (M' := M) (N' := N) rfl ?_
        refine r_iald (n := 4) f_187_59 (by decide) (by decide) (by decide) (by omega) ?_
        refine r_if_ne (pc := 60) f_187_60 (by omega) (fun h60 => ?_) (fun h60 => ?_)
        · refine r_run 3 (pc' := 73) (ls' := [some (yr 75), some (yi s), some (yi i), some (yi v)]) (st' := [yi s, yr 82, yi ((40 * s) + i), yr 84]) (M' := M) (N' := N) rfl ?_
          refine r_iald (n := 4) f_187_73 (by decide) (by decide) (by decide) (by omega) ?_
          refine r_run 1 (pc' := 75) (ls' := [some (yr 75), some (yi s), some (yi i), some (yi v)]) (st' := [yi 1, yi (M 82 s), yi ((40 * s) + i), yr 84]) (M' := M) (N' := N) rfl ?_
          refine r_icmp_ne (pc := 75) f_187_75 (by omega) (by omega) (fun h75 => ?_) (fun h75 => ?_)
          · refine r_run 1 (pc' := 84) (ls' := [some (yr 75), some (yi s), some (yi i), some (yi v)]) (st' := [yi v, yi ((40 * s) + i), yr 84]) (M' := M) (N' := N) rfl ?_
            refine r_iast (n := 160) f_187_84 (by decide) (by decide) (by decide) (by omega) ?_
            refine r_run 1 (pc' := 86) (ls' := [some (yr 75), some (yi s), some (yi i), some (yi v)]) (st' := [yi 1]) (M' := (yu M 84 ((40 * s) + i) v)) (N' := N) rfl ?_
            refine r_iret m_187 rfl f_187_86 ?_
            exact ⟨_, rfl, ⟨by rw [if_neg (by omega), if_neg (by omega), if_neg (by omega)], by rw [if_pos rfl]; unfold hCut; rw [if_neg (by omega), if_neg (by omega)]⟩, rfl⟩
          · refine r_run 3 (pc' := 84) (ls' := [some (yr 75), some (yi s), some (yi i), some (yi v)]) (st' := [yi ((Int32.ofInt v).toInt16.toInt), yi ((40 * s) + i), yr 84]) (M' := M) (N' := N) rfl ?_
            refine r_iast (n := 160) f_187_84 (by decide) (by decide) (by decide) (by omega) ?_
            refine r_run 1 (pc' := 86) (ls' := [some (yr 75), some (yi s), some (yi i), some (yi v)]) (st' := [yi 1]) (M' := (yu M 84 ((40 * s) + i) ((Int32.ofInt v).toInt16.toInt))) (N' := N) rfl ?_
            refine r_iret m_187 rfl f_187_86 ?_
            exact ⟨_, rfl, ⟨by rw [if_neg (by omega), if_neg (by omega), if_neg (by omega)], by rw [if_pos rfl]; unfold hCut; rw [if_neg (by omega), if_pos (by omega)]⟩, rfl⟩
        · refine r_run 3 (pc' := 84) (ls' := [some (yr 75), some (yi s), some (yi i), some (yi v)]) (st' := [yi ((Int32.ofInt v).toInt8.toInt), yi ((40 * s) + i), yr 84]) (M' := M) (N' := N) rfl ?_
          refine r_iast (n := 160) f_187_84 (by decide) (by decide) (by decide) (by omega) ?_
          refine r_run 1 (pc' := 86) (ls' := [some (yr 75), some (yi s), some (yi i), some (yi v)]) (st' := [yi 1]) (M' := (yu M 84 ((40 * s) + i) ((Int32.ofInt v).toInt8.toInt))) (N' := N) rfl ?_
          refine r_iret m_187 rfl f_187_86 ?_
          exact ⟨_, rfl, ⟨by rw [if_neg (by omega), if_neg (by omega), if_neg (by omega)], by rw [if_pos rfl]; unfold hCut; rw [if_pos (by omega)]⟩, rfl⟩
      · refine r_run 1 (pc' := 43) (ls' := [some (yr 75), some (yi s), some (yi i), some (yi v)]) (st' := [yi (-12)]) (M' := M) (N' := N) rfl ?_
        refine r_iret m_187 rfl f_187_43 ?_
        exact ⟨_, rfl, ⟨by rw [if_neg (by omega), if_neg (by omega), if_pos (by omega)], by rw [if_neg (by omega)]⟩, rfl⟩
    · refine r_run 1 (pc' := 24) (ls' := [some (yr 75), some (yi s), some (yi i), some (yi v)]) (st' := [yi (-11)]) (M' := M) (N' := N) rfl ?_
      refine r_iret m_187 rfl f_187_24 ?_
      exact ⟨_, rfl, ⟨by rw [if_neg (by omega), if_pos (by omega)], by rw [if_neg (by omega)]⟩, rfl⟩
  · refine r_run 1 (pc' := 11) (ls' := [some (yr 75), some (yi s), some (yi i), some (yi v)]) (st' := [yi (-2)]) (M' := M) (N' := N) rfl ?_
    refine r_iret m_187 rfl f_187_11 ?_
    exact ⟨_, rfl, ⟨by rw [if_pos (by omega)], by rw [if_neg (by omega)]⟩, rfl⟩
