def hWrong (M : YM) (s : Int) : Int := if s < 0 ∨ 3 < s then -2 else if M 82 s = -1 then -11 else if M 83 s = 6 then 0 else -2
theorem c_refusal {S : XS} {M N : YM} {s : Int} (hs : -2147483648 ≤ s ∧ s < 2147483648) (hH : RH M M) : rm S 2 108 [yr 0, yi s] M N (fun r M' N' => ∃ v : Int, some (yi v) = r ∧ (v = hWrong M s) ∧ M = M' ∧ N = N') := by
  refine ⟨xe_108, m_108, Nat.le_of_ble_eq_true rfl, ?_⟩
  have hE : 0 ≤ s → s < 4 → M (67 + 2 * s) 1 = M 82 s ∧ M (67 + 2 * s) 2 = M 83 s ∧ (-1 ≤ M 82 s ∧ M 82 s ≤ 2) ∧ (0 ≤ M 83 s ∧ M 83 s ≤ 40) := fun h0 h1 => by
    obtain ⟨e1, e2, e3, e4, -⟩ := hH s h0 h1
    exact ⟨e1, e2, e3, e4⟩
  refine r_run 1 (pc' := 1) (ls' := [some (yr 0), some (yi s)]) (st' := [yi s]) (M' := M) (N' := N) rfl ?_
  refine r_static (mj := 93) (as := [yi s]) (rest := []) f_108_1 (by decide) rfl m_93 rfl rfl rfl (Nat.le_of_ble_eq_true rfl) (by omega) (c_isSheet (by omega)) ?_
  rintro _ _ _ ⟨v1, rfl, hv1, rfl, rfl⟩
  refine r_if_ne (pc := 4) f_108_4 (by omega) (fun h4 => ?_) (fun h4 => ?_)
  · refine r_run 3 (pc' := 15) (ls' := [some (yr 0), some (yi s)]) (st' := [yi s, yr 32]) (M' := M) (N' := N) rfl ?_
    refine r_aald (r := 67 + 2 * s) (kd := 103) (n := 4) f_108_15 (by decide) (by decide) (by decide) (by decide) (by omega) (rf_sheet (by omega)) ?_
    refine r_getf (n := 3) 1 rfl f_108_16 (by decide) (show xFT[18]? = some (3, 1) from rfl) (by decide) (by omega) (yk_sheet (by omega)) ?_
    refine r_run 1 (pc' := 20) (ls' := [some (yr 0), some (yi s)]) (st' := [yi (-1), yi (M (67 + 2 * s) 1)]) (M' := M) (N' := N) rfl ?_
    refine r_icmp_ne (pc := 20) f_108_20 (by omega) (by omega) (fun h20 => ?_) (fun h20 => ?_)
    · refine r_run 3 (pc' := 31) (ls' := [some (yr 0), some (yi s)]) (st' := [yi s, yr 32]) (M' := M) (N' := N) rfl ?_
      refine r_aald (r := 67 + 2 * s) (kd := 103) (n := 4) f_108_31 (by decide) (by decide) (by decide) (by decide) (by omega) (rf_sheet (by omega)) ?_
      refine r_getf (n := 3) 2 rfl f_108_32 (by decide) (show xFT[19]? = some (3, 2) from rfl) (by decide) (by omega) (yk_sheet (by omega)) ?_
      refine r_run 1 (pc' := 37) (ls' := [some (yr 0), some (yi s)]) (st' := [yi 6, yi (M (67 + 2 * s) 2)]) (M' := M) (N' := N) rfl ?_
      refine r_icmp_ne (pc := 37) f_108_37 (by omega) (by omega) (fun h37 => ?_) (fun h37 => ?_)
      · refine r_run 1 (pc' := 46) (ls' := [some (yr 0), some (yi s)]) (st' := [yi (-2)]) (M' := M) (N' := N) rfl ?_
        refine r_iret m_108 rfl f_108_46 ?_
        exact ⟨_, rfl, by unfold hWrong; (repeat' split) <;> omega, rfl, rfl⟩
      · refine r_run 2 (pc' := 46) (ls' := [some (yr 0), some (yi s)]) (st' := [yi 0]) (M' := M) (N' := N) rfl ?_
        refine r_iret m_108 rfl f_108_46 ?_
        exact ⟨_, rfl, by unfold hWrong; (repeat' split) <;> omega, rfl, rfl⟩
    · refine r_run 1 (pc' := 25) (ls' := [some (yr 0), some (yi s)]) (st' := [yi (-11)]) (M' := M) (N' := N) rfl ?_
      refine r_iret m_108 rfl f_108_25 ?_
      exact ⟨_, rfl, by unfold hWrong; (repeat' split) <;> omega, rfl, rfl⟩
  · refine r_run 1 (pc' := 9) (ls' := [some (yr 0), some (yi s)]) (st' := [yi (-2)]) (M' := M) (N' := N) rfl ?_
    refine r_iret m_108 rfl f_108_9 ?_
    exact ⟨_, rfl, by unfold hWrong; (repeat' split) <;> omega, rfl, rfl⟩
theorem m_sheetWrong {S : XS} {M N : YM} {s : Int} (hs : -2147483648 ≤ s ∧ s < 2147483648) (hH : RH M M) : rm S 1 173 [yr 75, yi s] M N (fun r M' N' => ∃ v : Int, some (yi v) = r ∧ (v = hWrong M s) ∧ M = M' ∧ N = N') := by
  refine ⟨xe_173, m_173, Nat.le_of_ble_eq_true rfl, ?_⟩
  have hE : 0 ≤ s → s < 4 → M (67 + 2 * s) 1 = M 82 s ∧ M (67 + 2 * s) 2 = M 83 s ∧ (-1 ≤ M 82 s ∧ M 82 s ≤ 2) ∧ (0 ≤ M 83 s ∧ M 83 s ≤ 40) := fun h0 h1 => by
    obtain ⟨e1, e2, e3, e4, -⟩ := hH s h0 h1
    exact ⟨e1, e2, e3, e4⟩
  refine r_run 3 (pc' := 3) (ls' := [some (yr 75), some (yi s)]) (st' := [yi 3, yi 0, yi s]) (M' := M) (N' := N) rfl ?_
  refine r_static (mj := 112) (as := [yi s, yi 0, yi 3]) (rest := []) f_173_3 (by decide) rfl m_112 rfl rfl rfl (Nat.le_of_ble_eq_true rfl) (by omega) (m_in (by omega) (by omega) (by omega)) ?_
  rintro _ _ _ ⟨v3, rfl, hv3, rfl, rfl⟩
  refine r_if_ne (pc := 6) f_173_6 (by omega) (fun h6 => ?_) (fun h6 => ?_)
  · refine r_run 3 (pc' := 17) (ls' := [some (yr 75), some (yi s)]) (st' := [yi s, yr 82]) (M' := M) (N' := N) rfl ?_
    refine r_iald (n := 4) f_173_17 (by decide) (by decide) (by decide) (by omega) ?_
    refine r_run 1 (pc' := 19) (ls' := [some (yr 75), some (yi s)]) (st' := [yi (-1), yi (M 82 s)]) (M' := M) (N' := N) rfl ?_
    refine r_icmp_ne (pc := 19) f_173_19 (by omega) (by omega) (fun h19 => ?_) (fun h19 => ?_)
    · refine r_run 3 (pc' := 30) (ls' := [some (yr 75), some (yi s)]) (st' := [yi s, yr 83]) (M' := M) (N' := N) rfl ?_
      refine r_iald (n := 4) f_173_30 (by decide) (by decide) (by decide) (by omega) ?_
      refine r_run 1 (pc' := 33) (ls' := [some (yr 75), some (yi s)]) (st' := [yi 6, yi (M 83 s)]) (M' := M) (N' := N) rfl ?_
      refine r_icmp_ne (pc := 33) f_173_33 (by omega) (by omega) (fun h33 => ?_) (fun h33 => ?_)
      · refine r_run 1 (pc' := 42) (ls' := [some (yr 75), some (yi s)]) (st' := [yi (-2)]) (M' := M) (N' := N) rfl ?_
        refine r_iret m_173 rfl f_173_42 ?_
        exact ⟨_, rfl, by unfold hWrong; (repeat' split) <;> omega, rfl, rfl⟩
      · refine r_run 2 (pc' := 42) (ls' := [some (yr 75), some (yi s)]) (st' := [yi 0]) (M' := M) (N' := N) rfl ?_
        refine r_iret m_173 rfl f_173_42 ?_
        exact ⟨_, rfl, by unfold hWrong; (repeat' split) <;> omega, rfl, rfl⟩
    · refine r_run 1 (pc' := 24) (ls' := [some (yr 75), some (yi s)]) (st' := [yi (-11)]) (M' := M) (N' := N) rfl ?_
      refine r_iret m_173 rfl f_173_24 ?_
      exact ⟨_, rfl, by unfold hWrong; (repeat' split) <;> omega, rfl, rfl⟩
  · refine r_run 1 (pc' := 11) (ls' := [some (yr 75), some (yi s)]) (st' := [yi (-2)]) (M' := M) (N' := N) rfl ?_
    refine r_iret m_173 rfl f_173_11 ?_
    exact ⟨_, rfl, by unfold hWrong; (repeat' split) <;> omega, rfl, rfl⟩
theorem keep_loop {S : XS} {d : Nat} {n : Int} {N : YM} (hd : 1 ≤ d) (hn0 : 0 ≤ n ∧ n ≤ 10) {j : Nat} : ∀ {i : Int} {A : YM} {l3 : Option YV}, 0 ≤ i → i + j = n → A 13 1 = n → (∀ s, 0 ≤ s → s < n → (0 ≤ A (3 + s) 0 ∧ A (3 + s) 0 ≤ 5) ∧ 0 ≤ A (3 + s) 1 ∧ A (3 + s) 1 ≤ 9) → ry S d 50 34 [some (yr 13), some (yr 1), some (yi i), l3] [] A N (fun r M' N' => none = r ∧ (∀ s, i ≤ s → s < n → M' (15 + s) 0 = A (3 + s) 0 ∧ M' (15 + s) 1 = A (3 + s) 1 ∧ M' (15 + s) 2 = A (3 + s) 2 ∧ M' (15 + s) 3 = A (3 + s) 3 ∧ M' (15 + s) 4 = A (3 + s) 4) ∧ (∀ c k, c < 15 + i ∨ 15 + n ≤ c → M' c k = A c k) ∧ N = N') := by
  induction j with
  | zero =>
    intro i A l3 h0 h1 hn hv
    refine r_run 3 (pc' := 39) (ls' := [some (yr 13), some (yr 1), some (yi i), l3]) (st' := [yi (A 13 1), yi i]) (M' := A) (N' := N) rfl ?_
    refine r_icmp_ge (pc := 39) f_50_39 (by omega) (by omega) (fun h39 => ?_) (fun h39 => ?_)
    · refine r_vret m_50 rfl f_50_88 ?_
      exact ⟨rfl, fun s s0 s1 => absurd s0 (by omega), fun _ _ _ => rfl, rfl⟩
    · omega
  | succ j ih =>
    intro i A l3 h0 h1 hn hv
    refine r_run 3 (pc' := 39) (ls' := [some (yr 13), some (yr 1), some (yi i), l3]) (st' := [yi (A 13 1), yi i]) (M' := A) (N' := N) rfl ?_
    refine r_icmp_ge (pc := 39) f_50_39 (by omega) (by omega) (fun h39 => ?_) (fun h39 => ?_)
    · refine r_vret m_50 rfl f_50_88 ?_
      exact ⟨rfl, fun s s0 s1 => absurd s0 (by omega), fun _ _ _ => rfl, rfl⟩
    · refine r_run 3 (pc' := 47) (ls' := [some (yr 13), some (yr 1), some (yi i), l3]) (st' := [yi i, yr 2]) (M' := A) (N' := N) rfl ?_
      refine r_aald (r := 3 + i) (kd := 102) (n := 10) f_50_47 (by decide) (by decide) (by decide) (by decide) (by omega) (rf_say (by omega)) ?_
      refine r_run 4 (pc' := 54) (ls' := [some (yr 13), some (yr 1), some (yi i), some (yr (3 + i))]) (st' := [yi i, yr 14]) (M' := A) (N' := N) rfl ?_
      refine r_aald (r := 15 + i) (kd := 102) (n := 10) f_50_54 (by decide) (by decide) (by decide) (by decide) (by omega) (rf_ksay (by omega)) ?_
      refine r_run 2 (pc' := 58) (ls' := [some (yr 13), some (yr 1), some (yi i), some (yr (3 + i))]) (st' := [yr (3 + i), yi 10, yr (15 + i)]) (M' := A) (N' := N) rfl ?_
      refine r_getf (n := 5) 0 rfl f_50_58 (by decide) (show xFT[12]? = some (2, 0) from rfl) (by decide) (by omega) (yk_say (by omega)) ?_
      refine r_run 2 (pc' := 63) (ls' := [some (yr 13), some (yr 1), some (yi i), some (yr (3 + i))]) (st' := [yr (3 + i), yi (10 * (A (3 + i) 0)), yr (15 + i)]) (M' := A) (N' := N) rfl ?_
      refine r_getf (n := 5) 1 rfl f_50_63 (by decide) (show xFT[13]? = some (2, 1) from rfl) (by decide) (by omega) (yk_say (by omega)) ?_
      refine r_run 2 (pc' := 68) (ls' := [some (yr 13), some (yr 1), some (yi i), some (yr (3 + i))]) (st' := [yr (3 + i), yi ((10 * (A (3 + i) 0)) + (A (3 + i) 1)), yr (15 + i)]) (M' := A) (N' := N) rfl ?_
      refine r_getf (n := 5) 2 rfl f_50_68 (by decide) (show xFT[14]? = some (2, 2) from rfl) (by decide) (by omega) (yk_say (by omega)) ?_
      refine r_run 1 (pc' := 72) (ls' := [some (yr 13), some (yr 1), some (yi i), some (yr (3 + i))]) (st' := [yr (3 + i), yi (A (3 + i) 2), yi ((10 * (A (3 + i) 0)) + (A (3 + i) 1)), yr (15 + i)]) (M' := A) (N' := N) rfl ?_
      refine r_getf (n := 5) 3 rfl f_50_72 (by decide) (show xFT[15]? = some (2, 3) from rfl) (by decide) (by omega) (yk_say (by omega)) ?_
      refine r_run 1 (pc' := 76) (ls' := [some (yr 13), some (yr 1), some (yi i), some (yr (3 + i))]) (st' := [yr (3 + i), yi (A (3 + i) 3), yi (A (3 + i) 2), yi ((10 * (A (3 + i) 0)) + (A (3 + i) 1)), yr (15 + i)]) (M' := A) (N' := N) rfl ?_
      refine r_getf (n := 5) 4 rfl f_50_76 (by decide) (show xFT[16]? = some (2, 4) from rfl) (by decide) (by omega) (yk_say (by omega)) ?_
      refine r_virtual (mj := 22) (b := 15 + i) (as := [yi ((10 * (A (3 + i) 0)) + (A (3 + i) 1)), yi (A (3 + i) 2), yi (A (3 + i) 3), yi (A (3 + i) 4)]) (rest := []) f_50_79 (by decide) rfl m_22 (by decide) (by omega) (by rw [(yk_ksay (by omega))]; rfl) rfl rfl (Nat.le_of_ble_eq_true rfl) (by omega) (c_sbecomes (by omega) (yk_ksay (by omega)) (by have := hv i (by omega) (by omega); omega)) ?_
      rintro _ A2 _ ⟨rfl, hA2, rfl⟩
      refine r_run 2 (pc' := 34) (ls' := [some (yr 13), some (yr 1), some (yi (i + 1)), some (yr (3 + i))]) (st' := []) (M' := A2) (N' := N) rfl ?_
      have g : ∀ c k, c ≠ 15 + i → A2 c k = A c k := fun c k n => by
        rw [← hA2, yu_ne (by omega), yu_ne (by omega), yu_ne (by omega), yu_ne (by omega), yu_ne (by omega)]
      have gi : A2 (15 + i) 0 = A (3 + i) 0 ∧ A2 (15 + i) 1 = A (3 + i) 1 ∧ A2 (15 + i) 2 = A (3 + i) 2 ∧ A2 (15 + i) 3 = A (3 + i) 3 ∧ A2 (15 + i) 4 = A (3 + i) 4 := by
        have := hv i (by omega) (by omega)
        rw [← hA2]
        refine ⟨?_, ?_, ?_, ?_, ?_⟩
        · rw [yu_ne (by omega), yu_ne (by omega), yu_ne (by omega), yu_ne (by omega), yu_at]; omega
        · rw [yu_ne (by omega), yu_ne (by omega), yu_ne (by omega), yu_at]; omega
        · rw [yu_ne (by omega), yu_ne (by omega), yu_at]
        · rw [yu_ne (by omega), yu_at]
        · rw [yu_at]
      refine r_post (ih (l3 := some (yr (3 + i))) (by omega) (by omega) (by rw [g _ _ (by omega)]; exact hn) (fun s s0 s1 => by rw [g _ _ (by omega), g _ _ (by omega)]; exact hv s s0 s1)) ?_
      rintro _ M3 _ ⟨rfl, q1, q2, rfl⟩
      refine ⟨rfl, fun s s0 s1 => ?_, fun c k hc => ?_, rfl⟩
      · by_cases hs : s = i
        · subst hs
          rw [q2 _ _ (by omega), q2 _ _ (by omega), q2 _ _ (by omega), q2 _ _ (by omega), q2 _ _ (by omega)]
          exact gi
        · have := q1 s (by omega) s1
          rw [g (3 + s) _ (by omega), g (3 + s) _ (by omega), g (3 + s) _ (by omega), g (3 + s) _ (by omega), g (3 + s) _ (by omega)] at this
          exact this
      · rw [q2 c k (by omega), g c k (by omega)]
theorem c_tkeep {S : XS} {M N : YM} (hc : 0 ≤ M 1 1 ∧ M 1 1 ≤ 10) (hv : ∀ s, 0 ≤ s → s < M 1 1 → (0 ≤ M (3 + s) 0 ∧ M (3 + s) 0 ≤ 5) ∧ 0 ≤ M (3 + s) 1 ∧ M (3 + s) 1 ≤ 9) : rm S 1 50 [yr 13, yr 1] M N (fun r M' N' => none = r ∧ (M' 13 1 = M 1 1 ∧ M' 13 2 = M 1 2 ∧ M' 13 3 = M 1 3 ∧ M' 13 4 = M 1 4) ∧ (∀ s, 0 ≤ s → s < M 1 1 → M' (15 + s) 0 = M (3 + s) 0 ∧ M' (15 + s) 1 = M (3 + s) 1 ∧ M' (15 + s) 2 = M (3 + s) 2 ∧ M' (15 + s) 3 = M (3 + s) 3 ∧ M' (15 + s) 4 = M (3 + s) 4) ∧ (∀ c k, c ≠ 13 → (c < 15 ∨ 25 ≤ c) → M' c k = M c k) ∧ N = N') := by
  refine ⟨xe_50, m_50, Nat.le_of_ble_eq_true rfl, ?_⟩
  refine r_run 18 (pc' := 34) (ls' := [some (yr 13), some (yr 1), some (yi 0), none]) (st' := []) (M' := (yu (yu (yu (yu M 13 1 (M 1 1)) 13 2 (M 1 2)) 13 3 (M 1 3)) 13 4 (M 1 4))) (N' := N) rfl ?_
  have g : ∀ c k, c ≠ 13 → (yu (yu (yu (yu M 13 1 (M 1 1)) 13 2 (M 1 2)) 13 3 (M 1 3)) 13 4 (M 1 4)) c k = M c k := fun c k n => by
    rw [yu_ne (by omega), yu_ne (by omega), yu_ne (by omega), yu_ne (by omega)]
  have g1 : (yu (yu (yu (yu M 13 1 (M 1 1)) 13 2 (M 1 2)) 13 3 (M 1 3)) 13 4 (M 1 4)) 13 1 = M 1 1 := by rw [yu_ne (by omega), yu_ne (by omega), yu_ne (by omega), yu_at]
  have g2 : (yu (yu (yu (yu M 13 1 (M 1 1)) 13 2 (M 1 2)) 13 3 (M 1 3)) 13 4 (M 1 4)) 13 2 = M 1 2 := by rw [yu_ne (by omega), yu_ne (by omega), yu_at]
  have g3 : (yu (yu (yu (yu M 13 1 (M 1 1)) 13 2 (M 1 2)) 13 3 (M 1 3)) 13 4 (M 1 4)) 13 3 = M 1 3 := by rw [yu_ne (by omega), yu_at]
  have g4 : (yu (yu (yu (yu M 13 1 (M 1 1)) 13 2 (M 1 2)) 13 3 (M 1 3)) 13 4 (M 1 4)) 13 4 = M 1 4 := by rw [yu_at]
  refine r_post (keep_loop (n := M 1 1) (j := (M 1 1).toNat) (by omega) hc (by omega) (by omega) g1 (fun s s0 s1 => by rw [g _ _ (by omega), g _ _ (by omega)]; exact hv s s0 s1)) ?_
  rintro _ M3 _ ⟨rfl, q1, q2, rfl⟩
  refine ⟨rfl, ⟨?_, ?_, ?_, ?_⟩, fun s s0 s1 => ?_, fun c k h1 h2 => ?_, rfl⟩
  · rw [q2 _ _ (by omega)]; exact g1
  · rw [q2 _ _ (by omega)]; exact g2
  · rw [q2 _ _ (by omega)]; exact g3
  · rw [q2 _ _ (by omega)]; exact g4
  · have := q1 s s0 s1
    rw [g (3 + s) _ (by omega), g (3 + s) _ (by omega), g (3 + s) _ (by omega), g (3 + s) _ (by omega), g (3 + s) _ (by omega)] at this
    exact this
  · rw [q2 c k (by omega), g c k h1]
theorem back_loop {S : XS} {d : Nat} {n : Int} {N : YM} (hd : 1 ≤ d) (hn0 : 0 ≤ n ∧ n ≤ 10) {j : Nat} : ∀ {i : Int} {A : YM} {l3 : Option YV}, 0 ≤ i → i + j = n → A 1 1 = n → (∀ s, 0 ≤ s → s < n → (0 ≤ A (15 + s) 0 ∧ A (15 + s) 0 ≤ 5) ∧ 0 ≤ A (15 + s) 1 ∧ A (15 + s) 1 ≤ 9) → ry S d 50 34 [some (yr 1), some (yr 13), some (yi i), l3] [] A N (fun r M' N' => none = r ∧ (∀ s, i ≤ s → s < n → M' (3 + s) 0 = A (15 + s) 0 ∧ M' (3 + s) 1 = A (15 + s) 1 ∧ M' (3 + s) 2 = A (15 + s) 2 ∧ M' (3 + s) 3 = A (15 + s) 3 ∧ M' (3 + s) 4 = A (15 + s) 4) ∧ (∀ c k, c < 3 + i ∨ 3 + n ≤ c → M' c k = A c k) ∧ N = N') := by
  induction j with
  | zero =>
    intro i A l3 h0 h1 hn hv
    refine r_run 3 (pc' := 39) (ls' := [some (yr 1), some (yr 13), some (yi i), l3]) (st' := [yi (A 1 1), yi i]) (M' := A) (N' := N) rfl ?_
    refine r_icmp_ge (pc := 39) f_50_39 (by omega) (by omega) (fun h39 => ?_) (fun h39 => ?_)
    · refine r_vret m_50 rfl f_50_88 ?_
      exact ⟨rfl, fun s s0 s1 => absurd s0 (by omega), fun _ _ _ => rfl, rfl⟩
    · omega
  | succ j ih =>
    intro i A l3 h0 h1 hn hv
    refine r_run 3 (pc' := 39) (ls' := [some (yr 1), some (yr 13), some (yi i), l3]) (st' := [yi (A 1 1), yi i]) (M' := A) (N' := N) rfl ?_
    refine r_icmp_ge (pc := 39) f_50_39 (by omega) (by omega) (fun h39 => ?_) (fun h39 => ?_)
    · refine r_vret m_50 rfl f_50_88 ?_
      exact ⟨rfl, fun s s0 s1 => absurd s0 (by omega), fun _ _ _ => rfl, rfl⟩
    · refine r_run 3 (pc' := 47) (ls' := [some (yr 1), some (yr 13), some (yi i), l3]) (st' := [yi i, yr 14]) (M' := A) (N' := N) rfl ?_
      refine r_aald (r := 15 + i) (kd := 102) (n := 10) f_50_47 (by decide) (by decide) (by decide) (by decide) (by omega) (rf_ksay (by omega)) ?_
      refine r_run 4 (pc' := 54) (ls' := [some (yr 1), some (yr 13), some (yi i), some (yr (15 + i))]) (st' := [yi i, yr 2]) (M' := A) (N' := N) rfl ?_
      refine r_aald (r := 3 + i) (kd := 102) (n := 10) f_50_54 (by decide) (by decide) (by decide) (by decide) (by omega) (rf_say (by omega)) ?_
      refine r_run 2 (pc' := 58) (ls' := [some (yr 1), some (yr 13), some (yi i), some (yr (15 + i))]) (st' := [yr (15 + i), yi 10, yr (3 + i)]) (M' := A) (N' := N) rfl ?_
      refine r_getf (n := 5) 0 rfl f_50_58 (by decide) (show xFT[12]? = some (2, 0) from rfl) (by decide) (by omega) (yk_ksay (by omega)) ?_
      refine r_run 2 (pc' := 63) (ls' := [some (yr 1), some (yr 13), some (yi i), some (yr (15 + i))]) (st' := [yr (15 + i), yi (10 * (A (15 + i) 0)), yr (3 + i)]) (M' := A) (N' := N) rfl ?_
      refine r_getf (n := 5) 1 rfl f_50_63 (by decide) (show xFT[13]? = some (2, 1) from rfl) (by decide) (by omega) (yk_ksay (by omega)) ?_
      refine r_run 2 (pc' := 68) (ls' := [some (yr 1), some (yr 13), some (yi i), some (yr (15 + i))]) (st' := [yr (15 + i), yi ((10 * (A (15 + i) 0)) + (A (15 + i) 1)), yr (3 + i)]) (M' := A) (N' := N) rfl ?_
      refine r_getf (n := 5) 2 rfl f_50_68 (by decide) (show xFT[14]? = some (2, 2) from rfl) (by decide) (by omega) (yk_ksay (by omega)) ?_
      refine r_run 1 (pc' := 72) (ls' := [some (yr 1), some (yr 13), some (yi i), some (yr (15 + i))]) (st' := [yr (15 + i), yi (A (15 + i) 2), yi ((10 * (A (15 + i) 0)) + (A (15 + i) 1)), yr (3 + i)]) (M' := A) (N' := N) rfl ?_
      refine r_getf (n := 5) 3 rfl f_50_72 (by decide) (show xFT[15]? = some (2, 3) from rfl) (by decide) (by omega) (yk_ksay (by omega)) ?_
      refine r_run 1 (pc' := 76) (ls' := [some (yr 1), some (yr 13), some (yi i), some (yr (15 + i))]) (st' := [yr (15 + i), yi (A (15 + i) 3), yi (A (15 + i) 2), yi ((10 * (A (15 + i) 0)) + (A (15 + i) 1)), yr (3 + i)]) (M' := A) (N' := N) rfl ?_
      refine r_getf (n := 5) 4 rfl f_50_76 (by decide) (show xFT[16]? = some (2, 4) from rfl) (by decide) (by omega) (yk_ksay (by omega)) ?_
      refine r_virtual (mj := 22) (b := 3 + i) (as := [yi ((10 * (A (15 + i) 0)) + (A (15 + i) 1)), yi (A (15 + i) 2), yi (A (15 + i) 3), yi (A (15 + i) 4)]) (rest := []) f_50_79 (by decide) rfl m_22 (by decide) (by omega) (by rw [(yk_say (by omega))]; rfl) rfl rfl (Nat.le_of_ble_eq_true rfl) (by omega) (c_sbecomes (by omega) (yk_say (by omega)) (by have := hv i (by omega) (by omega); omega)) ?_
      rintro _ A2 _ ⟨rfl, hA2, rfl⟩
      refine r_run 2 (pc' := 34) (ls' := [some (yr 1), some (yr 13), some (yi (i + 1)), some (yr (15 + i))]) (st' := []) (M' := A2) (N' := N) rfl ?_
      have g : ∀ c k, c ≠ 3 + i → A2 c k = A c k := fun c k n => by
        rw [← hA2, yu_ne (by omega), yu_ne (by omega), yu_ne (by omega), yu_ne (by omega), yu_ne (by omega)]
      have gi : A2 (3 + i) 0 = A (15 + i) 0 ∧ A2 (3 + i) 1 = A (15 + i) 1 ∧ A2 (3 + i) 2 = A (15 + i) 2 ∧ A2 (3 + i) 3 = A (15 + i) 3 ∧ A2 (3 + i) 4 = A (15 + i) 4 := by
        have := hv i (by omega) (by omega)
        rw [← hA2]
        refine ⟨?_, ?_, ?_, ?_, ?_⟩
        · rw [yu_ne (by omega), yu_ne (by omega), yu_ne (by omega), yu_ne (by omega), yu_at]; omega
        · rw [yu_ne (by omega), yu_ne (by omega), yu_ne (by omega), yu_at]; omega
        · rw [yu_ne (by omega), yu_ne (by omega), yu_at]
        · rw [yu_ne (by omega), yu_at]
        · rw [yu_at]
      refine r_post (ih (l3 := some (yr (15 + i))) (by omega) (by omega) (by rw [g _ _ (by omega)]; exact hn) (fun s s0 s1 => by rw [g _ _ (by omega), g _ _ (by omega)]; exact hv s s0 s1)) ?_
      rintro _ M3 _ ⟨rfl, q1, q2, rfl⟩
      refine ⟨rfl, fun s s0 s1 => ?_, fun c k hc => ?_, rfl⟩
      · by_cases hs : s = i
        · subst hs
          rw [q2 _ _ (by omega), q2 _ _ (by omega), q2 _ _ (by omega), q2 _ _ (by omega), q2 _ _ (by omega)]
          exact gi
        · have := q1 s (by omega) s1
          rw [g (15 + s) _ (by omega), g (15 + s) _ (by omega), g (15 + s) _ (by omega), g (15 + s) _ (by omega), g (15 + s) _ (by omega)] at this
          exact this
      · rw [q2 c k (by omega), g c k (by omega)]
theorem c_tback {S : XS} {M N : YM} (hc : 0 ≤ M 13 1 ∧ M 13 1 ≤ 10) (hv : ∀ s, 0 ≤ s → s < M 13 1 → (0 ≤ M (15 + s) 0 ∧ M (15 + s) 0 ≤ 5) ∧ 0 ≤ M (15 + s) 1 ∧ M (15 + s) 1 ≤ 9) : rm S 1 50 [yr 1, yr 13] M N (fun r M' N' => none = r ∧ (M' 1 1 = M 13 1 ∧ M' 1 2 = M 13 2 ∧ M' 1 3 = M 13 3 ∧ M' 1 4 = M 13 4) ∧ (∀ s, 0 ≤ s → s < M 13 1 → M' (3 + s) 0 = M (15 + s) 0 ∧ M' (3 + s) 1 = M (15 + s) 1 ∧ M' (3 + s) 2 = M (15 + s) 2 ∧ M' (3 + s) 3 = M (15 + s) 3 ∧ M' (3 + s) 4 = M (15 + s) 4) ∧ (∀ c k, c ≠ 1 → (c < 3 ∨ 13 ≤ c) → M' c k = M c k) ∧ N = N') := by
  refine ⟨xe_50, m_50, Nat.le_of_ble_eq_true rfl, ?_⟩
  refine r_run 18 (pc' := 34) (ls' := [some (yr 1), some (yr 13), some (yi 0), none]) (st' := []) (M' := (yu (yu (yu (yu M 1 1 (M 13 1)) 1 2 (M 13 2)) 1 3 (M 13 3)) 1 4 (M 13 4))) (N' := N) rfl ?_
  have g : ∀ c k, c ≠ 1 → (yu (yu (yu (yu M 1 1 (M 13 1)) 1 2 (M 13 2)) 1 3 (M 13 3)) 1 4 (M 13 4)) c k = M c k := fun c k n => by
    rw [yu_ne (by omega), yu_ne (by omega), yu_ne (by omega), yu_ne (by omega)]
  have g1 : (yu (yu (yu (yu M 1 1 (M 13 1)) 1 2 (M 13 2)) 1 3 (M 13 3)) 1 4 (M 13 4)) 1 1 = M 13 1 := by rw [yu_ne (by omega), yu_ne (by omega), yu_ne (by omega), yu_at]
  have g2 : (yu (yu (yu (yu M 1 1 (M 13 1)) 1 2 (M 13 2)) 1 3 (M 13 3)) 1 4 (M 13 4)) 1 2 = M 13 2 := by rw [yu_ne (by omega), yu_ne (by omega), yu_at]
  have g3 : (yu (yu (yu (yu M 1 1 (M 13 1)) 1 2 (M 13 2)) 1 3 (M 13 3)) 1 4 (M 13 4)) 1 3 = M 13 3 := by rw [yu_ne (by omega), yu_at]
  have g4 : (yu (yu (yu (yu M 1 1 (M 13 1)) 1 2 (M 13 2)) 1 3 (M 13 3)) 1 4 (M 13 4)) 1 4 = M 13 4 := by rw [yu_at]
  refine r_post (back_loop (n := M 13 1) (j := (M 13 1).toNat) (by omega) hc (by omega) (by omega) g1 (fun s s0 s1 => by rw [g _ _ (by omega), g _ _ (by omega)]; exact hv s s0 s1)) ?_
  rintro _ M3 _ ⟨rfl, q1, q2, rfl⟩
  refine ⟨rfl, ⟨?_, ?_, ?_, ?_⟩, fun s s0 s1 => ?_, fun c k h1 h2 => ?_, rfl⟩
  · rw [q2 _ _ (by omega)]; exact g1
  · rw [q2 _ _ (by omega)]; exact g2
  · rw [q2 _ _ (by omega)]; exact g3
  · rw [q2 _ _ (by omega)]; exact g4
  · have := q1 s s0 s1
    rw [g (15 + s) _ (by omega), g (15 + s) _ (by omega), g (15 + s) _ (by omega), g (15 + s) _ (by omega), g (15 + s) _ (by omega)] at this
    exact this
  · rw [q2 c k (by omega), g c k h1]
