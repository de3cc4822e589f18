/-- cell b from lo on, below hi, filled with x -/
def yfill (M : YM) (b lo hi x : Int) : YM := fun c k => if c = b ∧ lo ≤ k ∧ k < hi then x else M c k
theorem yfill_done {M : YM} {b lo hi x : Int} (h : hi ≤ lo) : yfill M b lo hi x = M := by
  funext c k
  unfold yfill
  rw [if_neg (by omega)]
theorem yfill_step {M : YM} {b lo hi x : Int} (h : lo < hi) : yfill (yu M b lo x) b (lo + 1) hi x = yfill M b lo hi x := by
  funext c k
  unfold yfill yu
  by_cases h1 : c = b ∧ lo ≤ k ∧ k < hi
  · rw [if_pos h1]
    by_cases h2 : k = lo
    · rw [if_neg (by omega), if_pos (by omega)]
    · rw [if_pos (by omega)]
  · rw [if_neg h1, if_neg (by omega), if_neg (by omega)]

theorem fill_loop {S : XS} {d : Nat} {b x : Int} {N : YM} (hb : 0 ≤ b ∧ b < 94) (hk : yk b = (0, 40)) {j : Nat} : ∀ {k : Int} {M : YM}, 0 ≤ k → k + j = 40 → ry S d 204 5 [some (yr b), some (yi x), some (yi k), some (yi 40)] [] M N (fun r M' N' => none = r ∧ yfill M b k 40 x = M' ∧ N = N') := by
  induction j with
  | zero =>
    intro k M h0 h1
    refine r_run 2 (pc' := 7) (ls' := [some (yr b), some (yi x), some (yi k), some (yi 40)]) (st' := [yi 40, yi k]) (M' := M) (N' := N) rfl ?_
    refine r_icmp_ge (pc := 7) f_204_7 (by omega) (by omega) (fun h7 => ?_) (fun h7 => ?_)
    · refine r_vret m_204 rfl f_204_20 ?_
      exact ⟨rfl, yfill_done (by omega), rfl⟩
    · refine r_run 3 (pc' := 13) (ls' := [some (yr b), some (yi x), some (yi k), some (yi 40)]) (st' := [yi x, yi k, yr b]) (M' := M) (N' := N) rfl ?_
      refine r_iast (n := 40) f_204_13 hb hk (by decide) (by omega) ?_
      refine r_run 2 (pc' := 5) (ls' := [some (yr b), some (yi x), some (yi (k + 1)), some (yi 40)]) (st' := []) (M' := (yu M b k x)) (N' := N) rfl ?_
      rw [← yfill_step (show k < 40 by omega)]
      exact absurd h1 (by omega)
  | succ j ih =>
    intro k M h0 h1
    refine r_run 2 (pc' := 7) (ls' := [some (yr b), some (yi x), some (yi k), some (yi 40)]) (st' := [yi 40, yi k]) (M' := M) (N' := N) rfl ?_
    refine r_icmp_ge (pc := 7) f_204_7 (by omega) (by omega) (fun h7 => ?_) (fun h7 => ?_)
    · refine r_vret m_204 rfl f_204_20 ?_
      exact ⟨rfl, yfill_done (by omega), rfl⟩
    · refine r_run 3 (pc' := 13) (ls' := [some (yr b), some (yi x), some (yi k), some (yi 40)]) (st' := [yi x, yi k, yr b]) (M' := M) (N' := N) rfl ?_
      refine r_iast (n := 40) f_204_13 hb hk (by decide) (by omega) ?_
      refine r_run 2 (pc' := 5) (ls' := [some (yr b), some (yi x), some (yi (k + 1)), some (yi 40)]) (st' := []) (M' := (yu M b k x)) (N' := N) rfl ?_
      rw [← yfill_step (show k < 40 by omega)]
      exact ih (by omega) (by omega)
theorem j_fill {S : XS} {M N : YM} {b x : Int} (hb : 0 ≤ b ∧ b < 94) (hk : yk b = (0, 40)) : rm S 0 204 [yr b, yi x] M N (fun r M' N' => none = r ∧ yfill M b 0 40 x = M' ∧ N = N') := by
  refine ⟨xe_204, m_204, Nat.le_of_ble_eq_true rfl, ?_⟩
  refine r_run 3 (pc' := 3) (ls' := [some (yr b), some (yi x), some (yi 0), none]) (st' := [yr b]) (M' := M) (N' := N) rfl ?_
  refine r_alen (kd := 0) (n := 40) f_204_3 hb hk (by decide) ?_
  refine r_run 1 (pc' := 5) (ls' := [some (yr b), some (yi x), some (yi 0), some (yi 40)]) (st' := []) (M' := M) (N' := N) rfl ?_
  exact fill_loop hb hk (j := 40) (by omega) (by omega)
theorem c_becomes {S : XS} {M N : YM} {s t z : Int} (hs : 0 ≤ s ∧ s < 4) : rm S 1 30 [yr (67 + 2 * s), yi t, yi z] M N (fun r M' N' => none = r ∧ yfill (yu (yu M (67 + 2 * s) 1 t) (67 + 2 * s) 2 z) (68 + 2 * s) 0 40 0 = M' ∧ N = N') := by
  refine ⟨xe_30, m_30, Nat.le_of_ble_eq_true rfl, ?_⟩
  refine r_run 2 (pc' := 2) (ls' := [some (yr (67 + 2 * s)), some (yi t), some (yi z)]) (st' := [yi t, yr (67 + 2 * s)]) (M' := M) (N' := N) rfl ?_
  refine r_putf (n := 3) 1 rfl f_30_2 (show xFT[18]? = some (3, 1) from rfl) (Or.inl (by decide)) (by omega) (yk_sheet (by omega)) ?_
  refine r_run 2 (pc' := 7) (ls' := [some (yr (67 + 2 * s)), some (yi t), some (yi z)]) (st' := [yi z, yr (67 + 2 * s)]) (M' := (yu M (67 + 2 * s) 1 t)) (N' := N) rfl ?_
  refine r_putf (n := 3) 2 rfl f_30_7 (show xFT[19]? = some (3, 2) from rfl) (Or.inl (by decide)) (by omega) (yk_sheet (by omega)) ?_
  refine r_run 1 (pc' := 11) (ls' := [some (yr (67 + 2 * s)), some (yi t), some (yi z)]) (st' := [yr (67 + 2 * s)]) (M' := (yu (yu M (67 + 2 * s) 1 t) (67 + 2 * s) 2 z)) (N' := N) rfl ?_
  refine r_getr (r := 68 + 2 * s) (n := 3) f_30_11 (by decide) (show xFT[17]? = some (3, 0) from rfl) (by decide) (by omega) (yk_sheet (by omega)) (rf_scell (by omega)) ?_
  refine r_run 1 (pc' := 15) (ls' := [some (yr (67 + 2 * s)), some (yi t), some (yi z)]) (st' := [yi 0, yr (68 + 2 * s)]) (M' := (yu (yu M (67 + 2 * s) 1 t) (67 + 2 * s) 2 z)) (N' := N) rfl ?_
  refine r_static (mj := 204) (as := [yr (68 + 2 * s), yi 0]) (rest := []) f_30_15 (by decide) rfl m_204 rfl rfl rfl (Nat.le_of_ble_eq_true rfl) (by omega) (j_fill (by omega) (yk_scell (by omega)) ) ?_
  rintro _ _ _ ⟨rfl, rfl, rfl⟩
  refine r_vret m_30 rfl f_30_18 ?_
  exact ⟨rfl, rfl, rfl⟩
theorem c_sheet {S : XS} {M N : YM} {s t n : Int} (hs : -2147483648 ≤ s ∧ s < 2147483648) (ht : -2147483648 ≤ t ∧ t < 2147483648) (hn : -2147483648 ≤ n ∧ n < 2147483648) : rm S 2 85 [yr 0, yi s, yi t, yi n] M N (fun r M' N' => ∃ v' : Int, some (yi v') = r ∧ (v' = (if s < 0 ∨ 3 < s ∨ t < -1 ∨ 2 < t then -2 else if t ≠ -1 ∧ 40 < n then -2 else if t ≠ -1 ∧ n < 0 then -14 else 1) ∧ (if v' = 1 then yfill (yu (yu M (67 + 2 * s) 1 t) (67 + 2 * s) 2 (if t = -1 then 0 else n)) (68 + 2 * s) 0 40 0 else M) = M') ∧ N = N') := by
  refine ⟨xe_85, m_85, Nat.le_of_ble_eq_true rfl, ?_⟩
  refine r_run 1 (pc' := 1) (ls' := [some (yr 0), some (yi s), some (yi t), some (yi n)]) (st' := [yi s]) (M' := M) (N' := N) rfl ?_
  refine r_static (mj := 93) (as := [yi s]) (rest := []) f_85_1 (by decide) rfl m_93 rfl rfl rfl (Nat.le_of_ble_eq_true rfl) (by omega) (c_isSheet (by omega)) ?_
  rintro _ _ _ ⟨v1, rfl, hv1, rfl, rfl⟩
  refine r_if_eq (pc := 4) f_85_4 (by omega) (fun h4 => ?_) (fun h4 => ?_)
  · refine r_run 1 (pc' := 18) (ls' := [some (yr 0), some (yi s), some (yi t), some (yi n)]) (st' := [yi (-2)]) (M' := M) (N' := N) rfl ?_
    refine r_iret m_85 rfl f_85_18 ?_
    exact ⟨_, rfl, ⟨by (repeat' split) <;> omega, by rw [if_neg (by omega)]⟩, rfl⟩
  · refine r_run 3 (pc' := 10) (ls' := [some (yr 0), some (yi s), some (yi t), some (yi n)]) (st' := [yi 2, yi (-1), yi t]) (M' := M) (N' := N) rfl ?_
    refine r_static (mj := 90) (as := [yi t, yi (-1), yi 2]) (rest := []) f_85_10 (by decide) rfl m_90 rfl rfl rfl (Nat.le_of_ble_eq_true rfl) (by omega) (c_within (by omega) (by omega) (by omega)) ?_
    rintro _ _ _ ⟨v10, rfl, hv10, rfl, rfl⟩
    refine r_if_ne (pc := 13) f_85_13 (by omega) (fun h13 => ?_) (fun h13 => ?_)
    · refine r_run 2 (pc' := 21) (ls' := [some (yr 0), some (yi s), some (yi t), some (yi n)]) (st' := [yi (-1), yi t]) (M' := M) (N' := N) rfl ?_
      refine r_icmp_eq (pc := 21) f_85_21 (by omega) (by omega) (fun h21 => ?_) (fun h21 => ?_)
      · refine r_run 2 (pc' := 35) (ls' := [some (yr 0), some (yi s), some (yi t), some (yi n)]) (st' := [yi (-1), yi t]) (M' := M) (N' := N) rfl ?_
        refine r_icmp_eq (pc := 35) f_85_35 (by omega) (by omega) (fun h35 => ?_) (fun h35 => ?_)
        · refine r_run 3 (pc' := 50) (ls' := [some (yr 0), some (yi s), some (yi t), some (yi n)]) (st' := [yi s, yr 32]) (M' := M) (N' := N) rfl ?_
          refine r_aald (r := 67 + 2 * s) (kd := 103) (n := 4) f_85_50 (by decide) (by decide) (by decide) (by decide) (by omega) (rf_sheet (by omega)) ?_
          refine r_run 3 (pc' := 54) (ls' := [some (yr 0), some (yi s), some (yi t), some (yi n)]) (st' := [yi (-1), yi t, yi t, yr (67 + 2 * s)]) (M' := M) (N' := N) rfl ?_
          refine r_icmp_ne (pc := 54) f_85_54 (by omega) (by omega) (fun h54 => ?_) (fun h54 => ?_)
          · refine r_run 1 (pc' := 62) (ls' := [some (yr 0), some (yi s), some (yi t), some (yi n)]) (st' := [yi n, yi t, yr (67 + 2 * s)]) (M' := M) (N' := N) rfl ?_
            refine r_virtual (mj := 30) (b := 67 + 2 * s) (as := [yi t, yi n]) (rest := []) f_85_62 (by decide) rfl m_30 (by decide) (by omega) (by rw [(yk_sheet (by omega))]; rfl) rfl rfl (Nat.le_of_ble_eq_true rfl) (by omega) (c_becomes (by omega)) ?_
            rintro _ M2 _ ⟨rfl, hM2, rfl⟩
            refine r_run 1 (pc' := 66) (ls' := [some (yr 0), some (yi s), some (yi t), some (yi n)]) (st' := [yi 1]) (M' := M2) (N' := N) rfl ?_
            refine r_iret m_85 rfl f_85_66 ?_
            exact ⟨_, rfl, ⟨by rw [if_neg (by omega), if_neg (by omega), if_neg (by omega)], by rw [if_pos rfl, ← hM2, if_neg (by omega)]⟩, rfl⟩
          · refine r_run 2 (pc' := 62) (ls' := [some (yr 0), some (yi s), some (yi t), some (yi n)]) (st' := [yi 0, yi t, yr (67 + 2 * s)]) (M' := M) (N' := N) rfl ?_
            refine r_virtual (mj := 30) (b := 67 + 2 * s) (as := [yi t, yi 0]) (rest := []) f_85_62 (by decide) rfl m_30 (by decide) (by omega) (by rw [(yk_sheet (by omega))]; rfl) rfl rfl (Nat.le_of_ble_eq_true rfl) (by omega) (c_becomes (by omega)) ?_
            rintro _ M2 _ ⟨rfl, hM2, rfl⟩
            refine r_run 1 (pc' := 66) (ls' := [some (yr 0), some (yi s), some (yi t), some (yi n)]) (st' := [yi 1]) (M' := M2) (N' := N) rfl ?_
            refine r_iret m_85 rfl f_85_66 ?_
            exact ⟨_, rfl, ⟨by rw [if_neg (by omega), if_neg (by omega), if_neg (by omega)], by rw [if_pos rfl, ← hM2, if_pos (by omega)]⟩, rfl⟩
        · refine r_run 1 (pc' := 39) (ls' := [some (yr 0), some (yi s), some (yi t), some (yi n)]) (st' := [yi n]) (M' := M) (N' := N) rfl ?_
          refine r_if_ge (pc := 39) f_85_39 (by omega) (fun h39 => ?_) (fun h39 => ?_)
          · refine r_run 3 (pc' := 50) (ls' := [some (yr 0), some (yi s), some (yi t), some (yi n)]) (st' := [yi s, yr 32]) (M' := M) (N' := N) rfl ?_
            refine r_aald (r := 67 + 2 * s) (kd := 103) (n := 4) f_85_50 (by decide) (by decide) (by decide) (by decide) (by omega) (rf_sheet (by omega)) ?_
            refine r_run 3 (pc' := 54) (ls' := [some (yr 0), some (yi s), some (yi t), some (yi n)]) (st' := [yi (-1), yi t, yi t, yr (67 + 2 * s)]) (M' := M) (N' := N) rfl ?_
            refine r_icmp_ne (pc := 54) f_85_54 (by omega) (by omega) (fun h54 => ?_) (fun h54 => ?_)
            · refine r_run 1 (pc' := 62) (ls' := [some (yr 0), some (yi s), some (yi t), some (yi n)]) (st' := [yi n, yi t, yr (67 + 2 * s)]) (M' := M) (N' := N) rfl ?_
              refine r_virtual (mj := 30) (b := 67 + 2 * s) (as := [yi t, yi n]) (rest := []) f_85_62 (by decide) rfl m_30 (by decide) (by omega) (by rw [(yk_sheet (by omega))]; rfl) rfl rfl (Nat.le_of_ble_eq_true rfl) (by omega) (c_becomes (by omega)) ?_
              rintro _ M2 _ ⟨rfl, hM2, rfl⟩
              refine r_run 1 (pc' := 66) (ls' := [some (yr 0), some (yi s), some (yi t), some (yi n)]) (st' := [yi 1]) (M' := M2) (N' := N) rfl ?_
              refine r_iret m_85 rfl f_85_66 ?_
              exact ⟨_, rfl, ⟨by rw [if_neg (by omega), if_neg (by omega), if_neg (by omega)], by rw [if_pos rfl, ← hM2, if_neg (by omega)]⟩, rfl⟩
            · refine r_run 2 (pc' := 62) (ls' := [some (yr 0), some (yi s), some (yi t), some (yi n)]) (st' := [yi 0, yi t, yr (67 + 2 * s)]) (M' := M) (N' := N) rfl ?_
              refine r_virtual (mj := 30) (b := 67 + 2 * s) (as := [yi t, yi 0]) (rest := []) f_85_62 (by decide) rfl m_30 (by decide) (by omega) (by rw [(yk_sheet (by omega))]; rfl) rfl rfl (Nat.le_of_ble_eq_true rfl) (by omega) (c_becomes (by omega)) ?_
              rintro _ M2 _ ⟨rfl, hM2, rfl⟩
              refine r_run 1 (pc' := 66) (ls' := [some (yr 0), some (yi s), some (yi t), some (yi n)]) (st' := [yi 1]) (M' := M2) (N' := N) rfl ?_
              refine r_iret m_85 rfl f_85_66 ?_
              exact ⟨_, rfl, ⟨by rw [if_neg (by omega), if_neg (by omega), if_neg (by omega)], by rw [if_pos rfl, ← hM2, if_pos (by omega)]⟩, rfl⟩
          · refine r_run 1 (pc' := 44) (ls' := [some (yr 0), some (yi s), some (yi t), some (yi n)]) (st' := [yi (-14)]) (M' := M) (N' := N) rfl ?_
            refine r_iret m_85 rfl f_85_44 ?_
            exact ⟨_, rfl, ⟨by rw [if_neg (by omega), if_neg (by omega), if_pos (by omega)], by rw [if_neg (by omega)]⟩, rfl⟩
      · refine r_run 2 (pc' := 27) (ls' := [some (yr 0), some (yi s), some (yi t), some (yi n)]) (st' := [yi 40, yi n]) (M' := M) (N' := N) rfl ?_
        refine r_icmp_le (pc := 27) f_85_27 (by omega) (by omega) (fun h27 => ?_) (fun h27 => ?_)
        · refine r_run 2 (pc' := 35) (ls' := [some (yr 0), some (yi s), some (yi t), some (yi n)]) (st' := [yi (-1), yi t]) (M' := M) (N' := N) rfl ?_
          refine r_icmp_eq (pc := 35) f_85_35 (by omega) (by omega) (fun h35 => ?_) (fun h35 => ?_)
          · refine r_run 3 (pc' := 50) (ls' := [some (yr 0), some (yi s), some (yi t), some (yi n)]) (st' := [yi s, yr 32]) (M' := M) (N' := N) rfl ?_
            refine r_aald (r := 67 + 2 * s) (kd := 103) (n := 4) f_85_50 (by decide) (by decide) (by decide) (by decide) (by omega) (rf_sheet (by omega)) ?_
            refine r_run 3 (pc' := 54) (ls' := [some (yr 0), some (yi s), some (yi t), some (yi n)]) (st' := [yi (-1), yi t, yi t, yr (67 + 2 * s)]) (M' := M) (N' := N) rfl ?_
            refine r_icmp_ne (pc := 54) f_85_54 (by omega) (by omega) (fun h54 => ?_) (fun h54 => ?_)
            · refine r_run 1 (pc' := 62) (ls' := [some (yr 0), some (yi s), some (yi t), some (yi n)]) (st' := [yi n, yi t, yr (67 + 2 * s)]) (M' := M) (N' := N) rfl ?_
              refine r_virtual (mj := 30) (b := 67 + 2 * s) (as := [yi t, yi n]) (rest := []) f_85_62 (by decide) rfl m_30 (by decide) (by omega) (by rw [(yk_sheet (by omega))]; rfl) rfl rfl (Nat.le_of_ble_eq_true rfl) (by omega) (c_becomes (by omega)) ?_
              rintro _ M2 _ ⟨rfl, hM2, rfl⟩
              refine r_run 1 (pc' := 66) (ls' := [some (yr 0), some (yi s), some (yi t), some (yi n)]) (st' := [yi 1]) (M' := M2) (N' := N) rfl ?_
              refine r_iret m_85 rfl f_85_66 ?_
              exact ⟨_, rfl, ⟨by rw [if_neg (by omega), if_neg (by omega), if_neg (by omega)], by rw [if_pos rfl, ← hM2, if_neg (by omega)]⟩, rfl⟩
            · refine r_run 2 (pc' := 62) (ls' := [some (yr 0), some (yi s), some (yi t), some (yi n)]) (st' := [yi 0, yi t, yr (67 + 2 * s)]) (M' := M) (N' := N) rfl ?_
              refine r_virtual (mj := 30) (b := 67 + 2 * s) (as := [yi t, yi 0]) (rest := []) f_85_62 (by decide) rfl m_30 (by decide) (by omega) (by rw [(yk_sheet (by omega))]; rfl) rfl rfl (Nat.le_of_ble_eq_true rfl) (by omega) (c_becomes (by omega)) ?_
              rintro _ M2 _ ⟨rfl, hM2, rfl⟩
              refine r_run 1 (pc' := 66) (ls' := [some (yr 0), some (yi s), some (yi t), some (yi n)]) (st' := [yi 1]) (M' := M2) (N' := N) rfl ?_
              refine r_iret m_85 rfl f_85_66 ?_
              exact ⟨_, rfl, ⟨by rw [if_neg (by omega), if_neg (by omega), if_neg (by omega)], by rw [if_pos rfl, ← hM2, if_pos (by omega)]⟩, rfl⟩
          · refine r_run 1 (pc' := 39) (ls' := [some (yr 0), some (yi s), some (yi t), some (yi n)]) (st' := [yi n]) (M' := M) (N' := N) rfl ?_
            refine r_if_ge (pc := 39) f_85_39 (by omega) (fun h39 => ?_) (fun h39 => ?_)
            · refine r_run 3 (pc' := 50) (ls' := [some (yr 0), some (yi s), some (yi t), some (yi n)]) (st' := [yi s, yr 32]) (M' := M) (N' := N) rfl ?_
              refine r_aald (r := 67 + 2 * s) (kd := 103) (n := 4) f_85_50 (by decide) (by decide) (by decide) (by decide) (by omega) (rf_sheet (by omega)) ?_
              refine r_run 3 (pc' := 54) (ls' := [some (yr 0), some (yi s), some (yi t), some (yi n)]) (st' := [yi (-1), yi t, yi t, yr (67 + 2 * s)]) (M' := M) (N' := N) rfl ?_
              refine r_icmp_ne (pc := 54) f_85_54 (by omega) (by omega) (fun h54 => ?_) (fun h54 => ?_)
              · refine r_run 1 (pc' := 62) (ls' := [some (yr 0), some (yi s), some (yi t), some (yi n)]) (st' := [yi n, yi t, yr (67 + 2 * s)]) (M' := M) (N' := N) rfl ?_
                refine r_virtual (mj := 30) (b := 67 + 2 * s) (as := [yi t, yi n]) (rest := []) f_85_62 (by decide) rfl m_30 (by decide) (by omega) (by rw [(yk_sheet (by omega))]; rfl) rfl rfl (Nat.le_of_ble_eq_true rfl) (by omega) (c_becomes (by omega)) ?_
                rintro _ M2 _ ⟨rfl, hM2, rfl⟩
                refine r_run 1 (pc' := 66) (ls' := [some (yr 0), some (yi s), some (yi t), some (yi n)]) (st' := [yi 1]) (M' := M2) (N' := N) rfl ?_
                refine r_iret m_85 rfl f_85_66 ?_
                exact ⟨_, rfl, ⟨by rw [if_neg (by omega), if_neg (by omega), if_neg (by omega)], by rw [if_pos rfl, ← hM2, if_neg (by omega)]⟩, rfl⟩
              · refine r_run 2 (pc' := 62) (ls' := [some (yr 0), some (yi s), some (yi t), some (yi n)]) (st' := [yi 0, yi t, yr (67 + 2 * s)]) (M' := M) (N' := N) rfl ?_
                refine r_virtual (mj := 30) (b := 67 + 2 * s) (as := [yi t, yi 0]) (rest := []) f_85_62 (by decide) rfl m_30 (by decide) (by omega) (by rw [(yk_sheet (by omega))]; rfl) rfl rfl (Nat.le_of_ble_eq_true rfl) (by omega) (c_becomes (by omega)) ?_
                rintro _ M2 _ ⟨rfl, hM2, rfl⟩
                refine r_run 1 (pc' := 66) (ls' := [some (yr 0), some (yi s), some (yi t), some (yi n)]) (st' := [yi 1]) (M' := M2) (N' := N) rfl ?_
                refine r_iret m_85 rfl f_85_66 ?_
                exact ⟨_, rfl, ⟨by rw [if_neg (by omega), if_neg (by omega), if_neg (by omega)], by rw [if_pos rfl, ← hM2, if_pos (by omega)]⟩, rfl⟩
            · refine r_run 1 (pc' := 44) (ls' := [some (yr 0), some (yi s), some (yi t), some (yi n)]) (st' := [yi (-14)]) (M' := M) (N' := N) rfl ?_
              refine r_iret m_85 rfl f_85_44 ?_
              exact ⟨_, rfl, ⟨by rw [if_neg (by omega), if_neg (by omega), if_pos (by omega)], by rw [if_neg (by omega)]⟩, rfl⟩
        · refine r_run 1 (pc' := 32) (ls' := [some (yr 0), some (yi s), some (yi t), some (yi n)]) (st' := [yi (-2)]) (M' := M) (N' := N) rfl ?_
          refine r_iret m_85 rfl f_85_32 ?_
          exact ⟨_, rfl, ⟨by (repeat' split) <;> omega, by rw [if_neg (by omega)]⟩, rfl⟩
    · refine r_run 1 (pc' := 18) (ls' := [some (yr 0), some (yi s), some (yi t), some (yi n)]) (st' := [yi (-2)]) (M' := M) (N' := N) rfl ?_
      refine r_iret m_85 rfl f_85_18 ?_
      exact ⟨_, rfl, ⟨by (repeat' split) <;> omega, by rw [if_neg (by omega)]⟩, rfl⟩
theorem m_sheet_loop {S : XS} {d : Nat} {s t n : Int} {N : YM} (hs : 0 ≤ s ∧ s < 4) {j : Nat} : ∀ {k : Int} {M : YM}, 0 ≤ k → k + j = 40 → ry S d 186 70 [some (yr 75), some (yi s), some (yi t), some (yi n), some (yi k)] [] M N (fun r M' N' => some (yi 1) = r ∧ yfill M 84 (40 * s + k) (40 * s + 40) 0 = M' ∧ N = N') := by
  induction j with
  | zero =>
    intro k M h0 h1
    refine r_run 2 (pc' := 74) (ls' := [some (yr 75), some (yi s), some (yi t), some (yi n), some (yi k)]) (st' := [yi 40, yi k]) (M' := M) (N' := N) rfl ?_
    refine r_icmp_ge (pc := 74) f_186_74 (by omega) (by omega) (fun h74 => ?_) (fun h74 => ?_)
    · refine r_run 1 (pc' := 97) (ls' := [some (yr 75), some (yi s), some (yi t), some (yi n), some (yi k)]) (st' := [yi 1]) (M' := M) (N' := N) rfl ?_
      refine r_iret m_186 rfl f_186_97 ?_
      exact ⟨rfl, yfill_done (by omega), rfl⟩
    · refine r_run 8 (pc' := 89) (ls' := [some (yr 75), some (yi s), some (yi t), some (yi n), some (yi k)]) (st' := [yi 0, yi ((40 * s) + k), yr 84]) (M' := M) (N' := N) rfl ?_
      refine r_iast (n := 160) f_186_89 (by decide) (by decide) (by decide) (by omega) ?_
      refine r_run 2 (pc' := 70) (ls' := [some (yr 75), some (yi s), some (yi t), some (yi n), some (yi (k + 1))]) (st' := []) (M' := (yu M 84 ((40 * s) + k) 0)) (N' := N) rfl ?_
      rw [← yfill_step (show 40 * s + k < 40 * s + 40 by omega), show 40 * s + k + 1 = 40 * s + (k + 1) by omega]
      exact absurd h1 (by omega)
  | succ j ih =>
    intro k M h0 h1
    refine r_run 2 (pc' := 74) (ls' := [some (yr 75), some (yi s), some (yi t), some (yi n), some (yi k)]) (st' := [yi 40, yi k]) (M' := M) (N' := N) rfl ?_
    refine r_icmp_ge (pc := 74) f_186_74 (by omega) (by omega) (fun h74 => ?_) (fun h74 => ?_)
    · refine r_run 1 (pc' := 97) (ls' := [some (yr 75), some (yi s), some (yi t), some (yi n), some (yi k)]) (st' := [yi 1]) (M' := M) (N' := N) rfl ?_
      refine r_iret m_186 rfl f_186_97 ?_
      exact ⟨rfl, yfill_done (by omega), rfl⟩
    · refine r_run 8 (pc' := 89) (ls' := [some (yr 75), some (yi s), some (yi t), some (yi n), some (yi k)]) (st' := [yi 0, yi ((40 * s) + k), yr 84]) (M' := M) (N' := N) rfl ?_
      refine r_iast (n := 160) f_186_89 (by decide) (by decide) (by decide) (by omega) ?_
      refine r_run 2 (pc' := 70) (ls' := [some (yr 75), some (yi s), some (yi t), some (yi n), some (yi (k + 1))]) (st' := []) (M' := (yu M 84 ((40 * s) + k) 0)) (N' := N) rfl ?_
      rw [← yfill_step (show 40 * s + k < 40 * s + 40 by omega), show 40 * s + k + 1 = 40 * s + (k + 1) by omega]
      exact ih (by omega) (by omega)
theorem m_sheet {S : XS} {M N : YM} {s t n : Int} (hs : -2147483648 ≤ s ∧ s < 2147483648) (ht : -2147483648 ≤ t ∧ t < 2147483648) (hn : -2147483648 ≤ n ∧ n < 2147483648) : rm S 1 186 [yr 75, yi s, yi t, yi n] M N (fun r M' N' => ∃ v' : Int, some (yi v') = r ∧ (v' = (if s < 0 ∨ 3 < s ∨ t < -1 ∨ 2 < t then -2 else if t ≠ -1 ∧ 40 < n then -2 else if t ≠ -1 ∧ n < 0 then -14 else 1) ∧ (if v' = 1 then yfill (yu (yu M 82 s t) 83 s (if t = -1 then 0 else n)) 84 (40 * s) (40 * s + 40) 0 else M) = M') ∧ N = N') := by
  refine ⟨xe_186, m_186, Nat.le_of_ble_eq_true rfl, ?_⟩
  refine r_run 3 (pc' := 3) (ls' := [some (yr 75), some (yi s), some (yi t), some (yi n), none]) (st' := [yi 3, yi 0, yi s]) (M' := M) (N' := N) rfl ?_
  refine r_static (mj := 112) (as := [yi s, yi 0, yi 3]) (rest := []) f_186_3 (by decide) rfl m_112 rfl rfl rfl (Nat.le_of_ble_eq_true rfl) (by omega) (m_in (by omega) (by omega) (by omega)) ?_
  rintro _ _ _ ⟨v3, rfl, hv3, rfl, rfl⟩
  refine r_if_eq (pc := 6) f_186_6 (by omega) (fun h6 => ?_) (fun h6 => ?_)
  · refine r_run 1 (pc' := 31) (ls' := [some (yr 75), some (yi s), some (yi t), some (yi n), none]) (st' := [yi (-2)]) (M' := M) (N' := N) rfl ?_
    refine r_iret m_186 rfl f_186_31 ?_
    exact ⟨_, rfl, ⟨by (repeat' split) <;> omega, by rw [if_neg (by omega)]⟩, rfl⟩
  · refine r_run 3 (pc' := 12) (ls' := [some (yr 75), some (yi s), some (yi t), some (yi n), none]) (st' := [yi 2, yi (-1), yi t]) (M' := M) (N' := N) rfl ?_
    refine r_static (mj := 112) (as := [yi t, yi (-1), yi 2]) (rest := []) f_186_12 (by decide) rfl m_112 rfl rfl rfl (Nat.le_of_ble_eq_true rfl) (by omega) (m_in (by omega) (by omega) (by omega)) ?_
    rintro _ _ _ ⟨v12, rfl, hv12, rfl, rfl⟩
    refine r_if_eq (pc := 15) f_186_15 (by omega) (fun h15 => ?_) (fun h15 => ?_)
    · refine r_run 1 (pc' := 31) (ls' := [some (yr 75), some (yi s), some (yi t), some (yi n), none]) (st' := [yi (-2)]) (M' := M) (N' := N) rfl ?_
      refine r_iret m_186 rfl f_186_31 ?_
      exact ⟨_, rfl, ⟨by (repeat' split) <;> omega, by rw [if_neg (by omega)]⟩, rfl⟩
    · refine r_run 2 (pc' := 20) (ls' := [some (yr 75), some (yi s), some (yi t), some (yi n), none]) (st' := [yi (-1), yi t]) (M' := M) (N' := N) rfl ?_
      refine r_icmp_eq (pc := 20) f_186_20 (by omega) (by omega) (fun h20 => ?_) (fun h20 => ?_)
      · refine r_run 2 (pc' := 34) (ls' := [some (yr 75), some (yi s), some (yi t), some (yi n), none]) (st' := [yi (-1), yi t]) (M' := M) (N' := N) rfl ?_
        refine r_icmp_eq (pc := 34) f_186_34 (by omega) (by omega) (fun h34 => ?_) (fun h34 => ?_)
        · refine r_run 4 (pc' := 50) (ls' := [some (yr 75), some (yi s), some (yi t), some (yi n), none]) (st' := [yi t, yi s, yr 82]) (M' := M) (N' := N) rfl ?_
          refine r_iast (n := 4) f_186_50 (by decide) (by decide) (by decide) (by omega) ?_
          refine r_run 5 (pc' := 58) (ls' := [some (yr 75), some (yi s), some (yi t), some (yi n), none]) (st' := [yi (-1), yi t, yi s, yr 83]) (M' := (yu M 82 s t)) (N' := N) rfl ?_
          refine r_icmp_ne (pc := 58) f_186_58 (by omega) (by omega) (fun h58 => ?_) (fun h58 => ?_)
          · refine r_run 1 (pc' := 66) (ls' := [some (yr 75), some (yi s), some (yi t), some (yi n), none]) (st' := [yi n, yi s, yr 83]) (M' := (yu M 82 s t)) (N' := N) rfl ?_
            refine r_iast (n := 4) f_186_66 (by decide) (by decide) (by decide) (by omega) ?_
            refine r_run 2 (pc' := 70) (ls' := [some (yr 75), some (yi s), some (yi t), some (yi n), some (yi 0)]) (st' := []) (M' := (yu (yu M 82 s t) 83 s n)) (N' := N) rfl ?_
            refine r_post (m_sheet_loop (j := 40) (by omega) (by omega) (by omega)) ?_
            rintro _ _ _ ⟨rfl, rfl, rfl⟩
            exact ⟨1, rfl, ⟨by rw [if_neg (by omega), if_neg (by omega), if_neg (by omega)], by rw [if_pos rfl, if_neg (by omega), Int.add_zero]⟩, rfl⟩
          · refine r_run 2 (pc' := 66) (ls' := [some (yr 75), some (yi s), some (yi t), some (yi n), none]) (st' := [yi 0, yi s, yr 83]) (M' := (yu M 82 s t)) (N' := N) rfl ?_
            refine r_iast (n := 4) f_186_66 (by decide) (by decide) (by decide) (by omega) ?_
            refine r_run 2 (pc' := 70) (ls' := [some (yr 75), some (yi s), some (yi t), some (yi n), some (yi 0)]) (st' := []) (M' := (yu (yu M 82 s t) 83 s 0)) (N' := N) rfl ?_
            refine r_post (m_sheet_loop (j := 40) (by omega) (by omega) (by omega)) ?_
            rintro _ _ _ ⟨rfl, rfl, rfl⟩
            exact ⟨1, rfl, ⟨by rw [if_neg (by omega), if_neg (by omega), if_neg (by omega)], by rw [if_pos rfl, if_pos (by omega), Int.add_zero]⟩, rfl⟩
        · refine r_run 1 (pc' := 38) (ls' := [some (yr 75), some (yi s), some (yi t), some (yi n), none]) (st' := [yi n]) (M' := M) (N' := N) rfl ?_
          refine r_if_ge (pc := 38) f_186_38 (by omega) (fun h38 => ?_) (fun h38 => ?_)
          · refine r_run 4 (pc' := 50) (ls' := [some (yr 75), some (yi s), some (yi t), some (yi n), none]) (st' := [yi t, yi s, yr 82]) (M' := M) (N' := N) rfl ?_
            refine r_iast (n := 4) f_186_50 (by decide) (by decide) (by decide) (by omega) ?_
            refine r_run 5 (pc' := 58) (ls' := [some (yr 75), some (yi s), some (yi t), some (yi n), none]) (st' := [yi (-1), yi t, yi s, yr 83]) (M' := (yu M 82 s t)) (N' := N) rfl ?_
            refine r_icmp_ne (pc := 58) f_186_58 (by omega) (by omega) (fun h58 => ?_) (fun h58 => ?_)
            · refine r_run 1 (pc' := 66) (ls' := [some (yr 75), some (yi s), some (yi t), some (yi n), none]) (st' := [yi n, yi s, yr 83]) (M' := (yu M 82 s t)) (N' := N) rfl ?_
              refine r_iast (n := 4) f_186_66 (by decide) (by decide) (by decide) (by omega) ?_
              refine r_run 2 (pc' := 70) (ls' := [some (yr 75), some (yi s), some (yi t), some (yi n), some (yi 0)]) (st' := []) (M' := (yu (yu M 82 s t) 83 s n)) (N' := N) rfl ?_
              refine r_post (m_sheet_loop (j := 40) (by omega) (by omega) (by omega)) ?_
              rintro _ _ _ ⟨rfl, rfl, rfl⟩
              exact ⟨1, rfl, ⟨by rw [if_neg (by omega), if_neg (by omega), if_neg (by omega)], by rw [if_pos rfl, if_neg (by omega), Int.add_zero]⟩, rfl⟩
            · refine r_run 2 (pc' := 66) (ls' := [some (yr 75), some (yi s), some (yi t), some (yi n), none]) (st' := [yi 0, yi s, yr 83]) (M' := (yu M 82 s t)) (N' := N) rfl ?_
              refine r_iast (n := 4) f_186_66 (by decide) (by decide) (by decide) (by omega) ?_
              refine r_run 2 (pc' := 70) (ls' := [some (yr 75), some (yi s), some (yi t), some (yi n), some (yi 0)]) (st' := []) (M' := (yu (yu M 82 s t) 83 s 0)) (N' := N) rfl ?_
              refine r_post (m_sheet_loop (j := 40) (by omega) (by omega) (by omega)) ?_
              rintro _ _ _ ⟨rfl, rfl, rfl⟩
              exact ⟨1, rfl, ⟨by rw [if_neg (by omega), if_neg (by omega), if_neg (by omega)], by rw [if_pos rfl, if_pos (by omega), Int.add_zero]⟩, rfl⟩
          · refine r_run 1 (pc' := 43) (ls' := [some (yr 75), some (yi s), some (yi t), some (yi n), none]) (st' := [yi (-14)]) (M' := M) (N' := N) rfl ?_
            refine r_iret m_186 rfl f_186_43 ?_
            exact ⟨_, rfl, ⟨by rw [if_neg (by omega), if_neg (by omega), if_pos (by omega)], by rw [if_neg (by omega)]⟩, rfl⟩
      · refine r_run 2 (pc' := 26) (ls' := [some (yr 75), some (yi s), some (yi t), some (yi n), none]) (st' := [yi 40, yi n]) (M' := M) (N' := N) rfl ?_
        refine r_icmp_le (pc := 26) f_186_26 (by omega) (by omega) (fun h26 => ?_) (fun h26 => ?_)
        · refine r_run 2 (pc' := 34) (ls' := [some (yr 75), some (yi s), some (yi t), some (yi n), none]) (st' := [yi (-1), yi t]) (M' := M) (N' := N) rfl ?_
          refine r_icmp_eq (pc := 34) f_186_34 (by omega) (by omega) (fun h34 => ?_) (fun h34 => ?_)
          · refine r_run 4 (pc' := 50) (ls' := [some (yr 75), some (yi s), some (yi t), some (yi n), none]) (st' := [yi t, yi s, yr 82]) (M' := M) (N' := N) rfl ?_
            refine r_iast (n := 4) f_186_50 (by decide) (by decide) (by decide) (by omega) ?_
            refine r_run 5 (pc' := 58) (ls' := [some (yr 75), some (yi s), some (yi t), some (yi n), none]) (st' := [yi (-1), yi t, yi s, yr 83]) (M' := (yu M 82 s t)) (N' := N) rfl ?_
            refine r_icmp_ne (pc := 58) f_186_58 (by omega) (by omega) (fun h58 => ?_) (fun h58 => ?_)
            · refine r_run 1 (pc' := 66) (ls' := [some (yr 75), some (yi s), some (yi t), some (yi n), none]) (st' := [yi n, yi s, yr 83]) (M' := (yu M 82 s t)) (N' := N) rfl ?_
              refine r_iast (n := 4) f_186_66 (by decide) (by decide) (by decide) (by omega) ?_
              refine r_run 2 (pc' := 70) (ls' := [some (yr 75), some (yi s), some (yi t), some (yi n), some (yi 0)]) (st' := []) (M' := (yu (yu M 82 s t) 83 s n)) (N' := N) rfl ?_
              refine r_post (m_sheet_loop (j := 40) (by omega) (by omega) (by omega)) ?_
              rintro _ _ _ ⟨rfl, rfl, rfl⟩
              exact ⟨1, rfl, ⟨by rw [if_neg (by omega), if_neg (by omega), if_neg (by omega)], by rw [if_pos rfl, if_neg (by omega), Int.add_zero]⟩, rfl⟩
            · refine r_run 2 (pc' := 66) (ls' := [some (yr 75), some (yi s), some (yi t), some (yi n), none]) (st' := [yi 0, yi s, yr 83]) (M' := (yu M 82 s t)) (N' := N) rfl ?_
              refine r_iast (n := 4) f_186_66 (by decide) (by decide) (by decide) (by omega) ?_
              refine r_run 2 (pc' := 70) (ls' := [some (yr 75), some (yi s), some (yi t), some (yi n), some (yi 0)]) (st' := []) (M' := (yu (yu M 82 s t) 83 s 0)) (N' := N) rfl ?_
              refine r_post (m_sheet_loop (j := 40) (by omega) (by omega) (by omega)) ?_
              rintro _ _ _ ⟨rfl, rfl, rfl⟩
              exact ⟨1, rfl, ⟨by rw [if_neg (by omega), if_neg (by omega), if_neg (by omega)], by rw [if_pos rfl, if_pos (by omega), Int.add_zero]⟩, rfl⟩
          · refine r_run 1 (pc' := 38) (ls' := [some (yr 75), some (yi s), some (yi t), some (yi n), none]) (st' := [yi n]) (M' := M) (N' := N) rfl ?_
            refine r_if_ge (pc := 38) f_186_38 (by omega) (fun h38 => ?_) (fun h38 => ?_)
            · refine r_run 4 (pc' := 50) (ls' := [some (yr 75), some (yi s), some (yi t), some (yi n), none]) (st' := [yi t, yi s, yr 82]) (M' := M) (N' := N) rfl ?_
              refine r_iast (n := 4) f_186_50 (by decide) (by decide) (by decide) (by omega) ?_
              refine r_run 5 (pc' := 58) (ls' := [some (yr 75), some (yi s), some (yi t), some (yi n), none]) (st' := [yi (-1), yi t, yi s, yr 83]) (M' := (yu M 82 s t)) (N' := N) rfl ?_
              refine r_icmp_ne (pc := 58) f_186_58 (by omega) (by omega) (fun h58 => ?_) (fun h58 => ?_)
              · refine r_run 1 (pc' := 66) (ls' := [some (yr 75), some (yi s), some (yi t), some (yi n), none]) (st' := [yi n, yi s, yr 83]) (M' := (yu M 82 s t)) (N' := N) rfl ?_
                refine r_iast (n := 4) f_186_66 (by decide) (by decide) (by decide) (by omega) ?_
                refine r_run 2 (pc' := 70) (ls' := [some (yr 75), some (yi s), some (yi t), some (yi n), some (yi 0)]) (st' := []) (M' := (yu (yu M 82 s t) 83 s n)) (N' := N) rfl ?_
                refine r_post (m_sheet_loop (j := 40) (by omega) (by omega) (by omega)) ?_
                rintro _ _ _ ⟨rfl, rfl, rfl⟩
                exact ⟨1, rfl, ⟨by rw [if_neg (by omega), if_neg (by omega), if_neg (by omega)], by rw [if_pos rfl, if_neg (by omega), Int.add_zero]⟩, rfl⟩
              · refine r_run 2 (pc' := 66) (ls' := [some (yr 75), some (yi s), some (yi t), some (yi n), none]) (st' := [yi 0, yi s, yr 83]) (M' := (yu M 82 s t)) (N' := N) rfl ?_
                refine r_iast (n := 4) f_186_66 (by decide) (by decide) (by decide) (by omega) ?_
                refine r_run 2 (pc' := 70) (ls' := [some (yr 75), some (yi s), some (yi t), some (yi n), some (yi 0)]) (st' := []) (M' := (yu (yu M 82 s t) 83 s 0)) (N' := N) rfl ?_
                refine r_post (m_sheet_loop (j := 40) (by omega) (by omega) (by omega)) ?_
                rintro _ _ _ ⟨rfl, rfl, rfl⟩
                exact ⟨1, rfl, ⟨by rw [if_neg (by omega), if_neg (by omega), if_neg (by omega)], by rw [if_pos rfl, if_pos (by omega), Int.add_zero]⟩, rfl⟩
            · refine r_run 1 (pc' := 43) (ls' := [some (yr 75), some (yi s), some (yi t), some (yi n), none]) (st' := [yi (-14)]) (M' := M) (N' := N) rfl ?_
              refine r_iret m_186 rfl f_186_43 ?_
              exact ⟨_, rfl, ⟨by rw [if_neg (by omega), if_neg (by omega), if_pos (by omega)], by rw [if_neg (by omega)]⟩, rfl⟩
        · refine r_run 1 (pc' := 31) (ls' := [some (yr 75), some (yi s), some (yi t), some (yi n), none]) (st' := [yi (-2)]) (M' := M) (N' := N) rfl ?_
          refine r_iret m_186 rfl f_186_31 ?_
          exact ⟨_, rfl, ⟨by (repeat' split) <;> omega, by rw [if_neg (by omega)]⟩, rfl⟩
