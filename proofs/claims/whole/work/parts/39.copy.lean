theorem c_copy {S : XS} {M N : YM} {s i o j n : Int} (hI : InvH M) (hs : -2147483648 ≤ s ∧ s < 2147483648) (hi : -2147483648 ≤ i ∧ i < 2147483648) (ho : -2147483648 ≤ o ∧ o < 2147483648) (hj : -2147483648 ≤ j ∧ j < 2147483648) (hn : -2147483648 ≤ n ∧ n < 2147483648) : rm S 2 87 [yr 0, yi s, yi i, yi o, yi j, yi n] M N (fun r M' N' => ∃ v' : Int, some (yi v') = r ∧ (v' = (if s < 0 ∨ 3 < s ∨ o < 0 ∨ 3 < o then -2 else if M 82 s = -1 ∨ M 82 o = -1 then -11 else if M 82 s ≠ M 82 o then -13 else if n < 0 ∨ M 83 s < n ∨ i < 0 ∨ M 83 s - n < i ∨ M 83 o < n ∨ j < 0 ∨ M 83 o - n < j then -12 else n) ∧ (if 0 ≤ v' then ycopy M (68 + 2 * o) (68 + 2 * s) i j n else M) = M') ∧ N = N') := by
  refine ⟨xe_87, m_87, Nat.le_of_ble_eq_true rfl, ?_⟩
  have hEs : 0 ≤ s → s < 4 → M (67 + 2 * s) 1 = M 82 s ∧ M (67 + 2 * s) 2 = M 83 s ∧ (-1 ≤ M 82 s ∧ M 82 s ≤ 2) ∧ (0 ≤ M 83 s ∧ M 83 s ≤ 40) := fun h0 h1 => by
    obtain ⟨e1, e2, e3, e4, -⟩ := hI s h0 h1
    exact ⟨e1, e2, e3, e4⟩
  have hEo : 0 ≤ o → o < 4 → M (67 + 2 * o) 1 = M 82 o ∧ M (67 + 2 * o) 2 = M 83 o ∧ (-1 ≤ M 82 o ∧ M 82 o ≤ 2) ∧ (0 ≤ M 83 o ∧ M 83 o ≤ 40) := fun h0 h1 => by
    obtain ⟨e1, e2, e3, e4, -⟩ := hI o h0 h1
    exact ⟨e1, e2, e3, e4⟩
  refine r_run 1 (pc' := 1) (ls' := [some (yr 0), some (yi s), some (yi i), some (yi o), some (yi j), some (yi n), none, none]) (st' := [yi s]) (M' := M) (N' := N) rfl ?_
  refine r_static (mj := 93) (as := [yi s]) (rest := []) f_87_1 (by decide) rfl m_93 rfl rfl rfl (Nat.le_of_ble_eq_true rfl) (by omega) (c_isSheet (by omega)) ?_
  rintro _ _ _ ⟨v1, rfl, hv1, rfl, rfl⟩
  refine r_if_eq (pc := 4) f_87_4 (by omega) (fun h4 => ?_) (fun h4 => ?_)
  · refine r_run 1 (pc' := 16) (ls' := [some (yr 0), some (yi s), some (yi i), some (yi o), some (yi j), some (yi n), none, none]) (st' := [yi (-2)]) (M' := M) (N' := N) rfl ?_
    refine r_iret m_87 rfl f_87_16 ?_
    exact ⟨_, rfl, ⟨by rw [if_pos (by omega)], by rw [if_neg (by omega)]⟩, rfl⟩
  · refine r_run 1 (pc' := 8) (ls' := [some (yr 0), some (yi s), some (yi i), some (yi o), some (yi j), some (yi n), none, none]) (st' := [yi o]) (M' := M) (N' := N) rfl ?_
    refine r_static (mj := 93) (as := [yi o]) (rest := []) f_87_8 (by decide) rfl m_93 rfl rfl rfl (Nat.le_of_ble_eq_true rfl) (by omega) (c_isSheet (by omega)) ?_
    rintro _ _ _ ⟨v8, rfl, hv8, rfl, rfl⟩
    refine r_if_ne (pc := 11) f_87_11 (by omega) (fun h11 => ?_) (fun h11 => ?_)
    · refine r_run 3 (pc' := 22) (ls' := [some (yr 0), some (yi s), some (yi i), some (yi o), some (yi j), some (yi n), none, none]) (st' := [yi s, yr 32]) (M' := M) (N' := N) rfl ?_
      refine r_aald (r := 67 + 2 * s) (kd := 103) (n := 4) f_87_22 (by decide) (by decide) (by decide) (by decide) (by omega) (rf_sheet (by omega)) ?_
      refine r_run 4 (pc' := 30) (ls' := [some (yr 0), some (yi s), some (yi i), some (yi o), some (yi j), some (yi n), some (yr (67 + 2 * s)), none]) (st' := [yi o, yr 32]) (M' := M) (N' := N) rfl ?_
      refine r_aald (r := 67 + 2 * o) (kd := 103) (n := 4) f_87_30 (by decide) (by decide) (by decide) (by decide) (by omega) (rf_sheet (by omega)) ?_
      refine r_run 2 (pc' := 35) (ls' := [some (yr 0), some (yi s), some (yi i), some (yi o), some (yi j), some (yi n), some (yr (67 + 2 * s)), some (yr (67 + 2 * o))]) (st' := [yr (67 + 2 * s)]) (M' := M) (N' := N) rfl ?_
      refine r_getf (n := 3) 1 rfl f_87_35 (by decide) (show xFT[18]? = some (3, 1) from rfl) (by decide) (by omega) (yk_sheet (by omega)) ?_
      refine r_run 1 (pc' := 39) (ls' := [some (yr 0), some (yi s), some (yi i), some (yi o), some (yi j), some (yi n), some (yr (67 + 2 * s)), some (yr (67 + 2 * o))]) (st' := [yi (-1), yi (M (67 + 2 * s) 1)]) (M' := M) (N' := N) rfl ?_
      refine r_icmp_eq (pc := 39) f_87_39 (by omega) (by omega) (fun h39 => ?_) (fun h39 => ?_)
      · refine r_run 1 (pc' := 53) (ls' := [some (yr 0), some (yi s), some (yi i), some (yi o), some (yi j), some (yi n), some (yr (67 + 2 * s)), some (yr (67 + 2 * o))]) (st' := [yi (-11)]) (M' := M) (N' := N) rfl ?_
        refine r_iret m_87 rfl f_87_53 ?_
        exact ⟨_, rfl, ⟨by rw [if_neg (by omega), if_pos (by omega)], by rw [if_neg (by omega)]⟩, rfl⟩
      · refine r_run 1 (pc' := 44) (ls' := [some (yr 0), some (yi s), some (yi i), some (yi o), some (yi j), some (yi n), some (yr (67 + 2 * s)), some (yr (67 + 2 * o))]) (st' := [yr (67 + 2 * o)]) (M' := M) (N' := N) rfl ?_
        refine r_getf (n := 3) 1 rfl f_87_44 (by decide) (show xFT[18]? = some (3, 1) from rfl) (by decide) (by omega) (yk_sheet (by omega)) ?_
        refine r_run 1 (pc' := 48) (ls' := [some (yr 0), some (yi s), some (yi i), some (yi o), some (yi j), some (yi n), some (yr (67 + 2 * s)), some (yr (67 + 2 * o))]) (st' := [yi (-1), yi (M (67 + 2 * o) 1)]) (M' := M) (N' := N) rfl ?_
        refine r_icmp_ne (pc := 48) f_87_48 (by omega) (by omega) (fun h48 => ?_) (fun h48 => ?_)
        · refine r_run 1 (pc' := 56) (ls' := [some (yr 0), some (yi s), some (yi i), some (yi o), some (yi j), some (yi n), some (yr (67 + 2 * s)), some (yr (67 + 2 * o))]) (st' := [yr (67 + 2 * s)]) (M' := M) (N' := N) rfl ?_
          refine r_getf (n := 3) 1 rfl f_87_56 (by decide) (show xFT[18]? = some (3, 1) from rfl) (by decide) (by omega) (yk_sheet (by omega)) ?_
          refine r_run 1 (pc' := 61) (ls' := [some (yr 0), some (yi s), some (yi i), some (yi o), some (yi j), some (yi n), some (yr (67 + 2 * s)), some (yr (67 + 2 * o))]) (st' := [yr (67 + 2 * o), yi (M (67 + 2 * s) 1)]) (M' := M) (N' := N) rfl ?_
          refine r_getf (n := 3) 1 rfl f_87_61 (by decide) (show xFT[18]? = some (3, 1) from rfl) (by decide) (by omega) (yk_sheet (by omega)) ?_
          refine r_icmp_eq (pc := 64) f_87_64 (by omega) (by omega) (fun h64 => ?_) (fun h64 => ?_)
          · refine r_run 3 (pc' := 75) (ls' := [some (yr 0), some (yi s), some (yi i), some (yi o), some (yi j), some (yi n), some (yr (67 + 2 * s)), some (yr (67 + 2 * o))]) (st' := [yi n, yi i, yr (67 + 2 * s)]) (M' := M) (N' := N) rfl ?_
            refine r_virtual (mj := 32) (b := 67 + 2 * s) (as := [yi i, yi n]) (rest := []) f_87_75 (by decide) rfl m_32 (by decide) (by omega) (by rw [(yk_sheet (by omega))]; rfl) rfl rfl (Nat.le_of_ble_eq_true rfl) (by omega) (c_hasRun (by omega) (by omega) (by omega) (by omega)) ?_
            rintro _ _ _ ⟨v75, rfl, hv75, rfl, rfl⟩
            refine r_if_eq (pc := 78) f_87_78 (by omega) (fun h78 => ?_) (fun h78 => ?_)
            · refine r_run 1 (pc' := 95) (ls' := [some (yr 0), some (yi s), some (yi i), some (yi o), some (yi j), some (yi n), some (yr (67 + 2 * s)), some (yr (67 + 2 * o))]) (st' := [yi (-12)]) (M' := M) (N' := N) rfl ?_
              refine r_iret m_87 rfl f_87_95 ?_
              exact ⟨_, rfl, ⟨by rw [if_neg (by omega), if_neg (by omega), if_neg (by omega), if_pos (by omega)], by rw [if_neg (by omega)]⟩, rfl⟩
            · refine r_run 3 (pc' := 87) (ls' := [some (yr 0), some (yi s), some (yi i), some (yi o), some (yi j), some (yi n), some (yr (67 + 2 * s)), some (yr (67 + 2 * o))]) (st' := [yi n, yi j, yr (67 + 2 * o)]) (M' := M) (N' := N) rfl ?_
              refine r_virtual (mj := 32) (b := 67 + 2 * o) (as := [yi j, yi n]) (rest := []) f_87_87 (by decide) rfl m_32 (by decide) (by omega) (by rw [(yk_sheet (by omega))]; rfl) rfl rfl (Nat.le_of_ble_eq_true rfl) (by omega) (c_hasRun (by omega) (by omega) (by omega) (by omega)) ?_
              rintro _ _ _ ⟨v87, rfl, hv87, rfl, rfl⟩
              refine r_if_ne (pc := 90) f_87_90 (by omega) (fun h90 => ?_) (fun h90 => ?_)
              · refine r_run 1 (pc' := 98) (ls' := [some (yr 0), some (yi s), some (yi i), some (yi o), some (yi j), some (yi n), some (yr (67 + 2 * s)), some (yr (67 + 2 * o))]) (st' := [yr (67 + 2 * s)]) (M' := M) (N' := N) rfl ?_
                refine r_getr (r := 68 + 2 * s) (n := 3) f_87_98 (by decide) (show xFT[17]? = some (3, 0) from rfl) (by decide) (by omega) (yk_sheet (by omega)) (rf_scell (by omega)) ?_
                refine r_run 2 (pc' := 104) (ls' := [some (yr 0), some (yi s), some (yi i), some (yi o), some (yi j), some (yi n), some (yr (67 + 2 * s)), some (yr (67 + 2 * o))]) (st' := [yr (67 + 2 * o), yi i, yr (68 + 2 * s)]) (M' := M) (N' := N) rfl ?_
                refine r_getr (r := 68 + 2 * o) (n := 3) f_87_104 (by decide) (show xFT[17]? = some (3, 0) from rfl) (by decide) (by omega) (yk_sheet (by omega)) (rf_scell (by omega)) ?_
                refine r_run 2 (pc' := 111) (ls' := [some (yr 0), some (yi s), some (yi i), some (yi o), some (yi j), some (yi n), some (yr (67 + 2 * s)), some (yr (67 + 2 * o))]) (st' := [yi n, yi j, yr (68 + 2 * o), yi i, yr (68 + 2 * s)]) (M' := M) (N' := N) rfl ?_
                refine r_copy (na := 40) (nb := 40) f_87_111 (by omega) (by omega) (yk_scell (by omega)) (yk_scell (by omega)) (by omega) (by omega) (by omega) (by decide) (by decide) (Nat.le_of_ble_eq_true rfl) (by omega) ?_
                refine r_run 1 (pc' := 116) (ls' := [some (yr 0), some (yi s), some (yi i), some (yi o), some (yi j), some (yi n), some (yr (67 + 2 * s)), some (yr (67 + 2 * o))]) (st' := [yi n]) (M' := (ycopy M (68 + 2 * o) (68 + 2 * s) i j n)) (N' := N) rfl ?_
                refine r_iret m_87 rfl f_87_116 ?_
                exact ⟨_, rfl, ⟨by rw [if_neg (by omega), if_neg (by omega), if_neg (by omega), if_neg (by omega)], by rw [if_pos (by omega)]⟩, rfl⟩
              · refine r_run 1 (pc' := 95) (ls' := [some (yr 0), some (yi s), some (yi i), some (yi o), some (yi j), some (yi n), some (yr (67 + 2 * s)), some (yr (67 + 2 * o))]) (st' := [yi (-12)]) (M' := M) (N' := N) rfl ?_
                refine r_iret m_87 rfl f_87_95 ?_
                exact ⟨_, rfl, ⟨by rw [if_neg (by omega), if_neg (by omega), if_neg (by omega), if_pos (by omega)], by rw [if_neg (by omega)]⟩, rfl⟩
          · refine r_run 1 (pc' := 69) (ls' := [some (yr 0), some (yi s), some (yi i), some (yi o), some (yi j), some (yi n), some (yr (67 + 2 * s)), some (yr (67 + 2 * o))]) (st' := [yi (-13)]) (M' := M) (N' := N) rfl ?_
            refine r_iret m_87 rfl f_87_69 ?_
            exact ⟨_, rfl, ⟨by rw [if_neg (by omega), if_neg (by omega), if_pos (by omega)], by rw [if_neg (by omega)]⟩, rfl⟩
        · refine r_run 1 (pc' := 53) (ls' := [some (yr 0), some (yi s), some (yi i), some (yi o), some (yi j), some (yi n), some (yr (67 + 2 * s)), some (yr (67 + 2 * o))]) (st' := [yi (-11)]) (M' := M) (N' := N) rfl ?_
          refine r_iret m_87 rfl f_87_53 ?_
          exact ⟨_, rfl, ⟨by rw [if_neg (by omega), if_pos (by omega)], by rw [if_neg (by omega)]⟩, rfl⟩
    · refine r_run 1 (pc' := 16) (ls' := [some (yr 0), some (yi s), some (yi i), some (yi o), some (yi j), some (yi n), none, none]) (st' := [yi (-2)]) (M' := M) (N' := N) rfl ?_
      refine r_iret m_87 rfl f_87_16 ?_
      exact ⟨_, rfl, ⟨by rw [if_pos (by omega)], by rw [if_neg (by omega)]⟩, rfl⟩
/-- of a run of n cells, q are copied: from the begin, where a lies behind b, else from the end -/
def ypart (M : YM) (c a b n q : Int) : YM := fun x k => if x = c ∧ b ≤ k ∧ k < b + n ∧ ((a < b ∧ b + n - q ≤ k) ∨ (b ≤ a ∧ k < b + q)) then M c (a + (k - b)) else M x k
theorem ypart_zero {M : YM} {c a b n : Int} : ypart M c a b n 0 = M := by
  funext x k
  unfold ypart
  rw [if_neg (by omega)]
theorem ypart_all {M : YM} {c a b n : Int} : ypart M c a b n n = ycopy M c c a b n := by
  funext x k
  unfold ypart ycopy
  by_cases h : x = c ∧ b ≤ k ∧ k < b + n
  · rw [if_pos h, if_pos ⟨h.1, h.2.1, h.2.2, by omega⟩]
  · rw [if_neg h, if_neg (fun g => h ⟨g.1, g.2.1, g.2.2.1⟩)]
theorem ypart_back {M : YM} {c a b n q : Int} (h : a < b) (h0 : 0 ≤ q) (h1 : q < n) : yu (ypart M c a b n q) c (b + (n - 1 - q)) (ypart M c a b n q c (a + (n - 1 - q))) = ypart M c a b n (q + 1) := by
  have e : ypart M c a b n q c (a + (n - 1 - q)) = M c (a + (n - 1 - q)) := by
    unfold ypart
    rw [if_neg (by omega)]
  rw [e]
  funext x k
  unfold yu ypart
  by_cases g : x = c ∧ k = b + (n - 1 - q)
  · rw [if_pos g, if_pos (by omega), g.2, show a + (b + (n - 1 - q) - b) = a + (n - 1 - q) by omega]
  · rw [if_neg g]
    by_cases g2 : x = c ∧ b ≤ k ∧ k < b + n ∧ ((a < b ∧ b + n - q ≤ k) ∨ (b ≤ a ∧ k < b + q))
    · rw [if_pos g2, if_pos (by omega)]
    · rw [if_neg g2, if_neg (by omega)]
theorem ypart_fore {M : YM} {c a b n q : Int} (h : ¬ a < b) (h0 : 0 ≤ q) (h1 : q < n) : yu (ypart M c a b n q) c (b + q) (ypart M c a b n q c (a + q)) = ypart M c a b n (q + 1) := by
  have e : ypart M c a b n q c (a + q) = M c (a + q) := by
    unfold ypart
    rw [if_neg (by omega)]
  rw [e]
  funext x k
  unfold yu ypart
  by_cases g : x = c ∧ k = b + q
  · rw [if_pos g, if_pos (by omega), g.2, show a + (b + q - b) = a + q by omega]
  · rw [if_neg g]
    by_cases g2 : x = c ∧ b ≤ k ∧ k < b + n ∧ ((a < b ∧ b + n - q ≤ k) ∨ (b ≤ a ∧ k < b + q))
    · rw [if_pos g2, if_pos (by omega)]
    · rw [if_neg g2, if_neg (by omega)]
