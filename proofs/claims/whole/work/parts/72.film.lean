/-! a film -/
def fv (O : Int → Int → Int) (h i : Int) : Int := if h = 0 then -O i 6 else O 6 i
theorem fv_in {O : Int → Int → Int} (hO : oIn O) (h : Int) {i : Int} (hi : in6 i) : in9 (fv O h i) := by
  have := hO i hi
  unfold fv
  split <;> omega
noncomputable def fFilm (s h : Int) (M : YM) : Int := if s < 0 ∨ 3 < s then -2 else if h < 0 ∨ 1 < h then -7 else if nV M = 0 then -9 else 6
theorem fFilm_eq {s h : Int} {M M' : YM} (e : eqs M M') : fFilm s h M' = fFilm s h M := by
  unfold fFilm
  rw [e.eV]
def filmC (s h : Int) (M M' : YM) : Prop := (∀ c k, ¬ sc c k → c ≠ 67 + 2 * s → c ≠ 68 + 2 * s → M' c k = M c k) ∧ M' (67 + 2 * s) 1 = 2 ∧ M' (67 + 2 * s) 2 = 6 ∧ ∀ i, 0 ≤ i → i < 40 → M' (68 + 2 * s) i = if i < 6 then fv (nT M) h i else 0
def filmM (s h : Int) (M M' : YM) : Prop := (∀ c k, ¬ sc c k → (c ≠ 82 ∧ c ≠ 83) ∨ k ≠ s → c ≠ 84 ∨ k < 40 * s ∨ 40 * s + 40 ≤ k → M' c k = M c k) ∧ M' 82 s = 2 ∧ M' 83 s = 6 ∧ (∀ i, 0 ≤ i → i < 40 → M' 84 (40 * s + i) = if i < 6 then fv (nT M) h i else 0) ∧ oIn (nT M)
theorem hCut2 {v : Int} : hCut 2 v = v := rfl
theorem c_film_l {S : XS} {d : Nat} {s h : Int} {O : Int → Int → Int} {N : YM} {Q : Option YV → YM → YM → Prop} (hd : 1 ≤ d) (hs : 0 ≤ s ∧ s < 4) (hh : 0 ≤ h ∧ h ≤ 1) {j : Nat} : ∀ {q : Int} {M : YM}, 0 ≤ q → q + j = 6 → cAt M O → M (67 + 2 * s) 1 = 2 → (∀ M', (∀ c, c ≠ 68 + 2 * s → M' c = M c) → (∀ i, i < q ∨ 6 ≤ i → M' (68 + 2 * s) i = M (68 + 2 * s) i) → (∀ i, q ≤ i → i < 6 → M' (68 + 2 * s) i = fv O h i) → Q (some (yi 6)) M' N) → ry S d 80 46 [some (yr 0), some (yi s), some (yi h), some (yi q)] [] M N Q := by
  induction j with
  | zero =>
    intro q M h0 h1 hA h2 kk
    refine r_run 2 (pc' := 49) (ls' := [some (yr 0), some (yi s), some (yi h), some (yi q)]) (st' := [yi 6, yi q]) (M' := M) (N' := N) rfl ?_
    refine r_icmp_ge (pc := 49) f_80_49 (by omega) (by omega) (fun h49 => ?_) (fun h49 => ?_)
    · refine r_run 1 (pc' := 95) (ls' := [some (yr 0), some (yi s), some (yi h), some (yi q)]) (st' := [yi 6]) (M' := M) (N' := N) rfl ?_
      refine r_iret m_80 rfl f_80_95 ?_
      exact kk M (fun c _ => rfl) (fun i _ => rfl) (fun i i0 i1 => by omega)
    · exfalso; omega
  | succ j ih =>
    intro q M h0 h1 hA h2 kk
    have ha := hA.1 q ⟨h0, by omega⟩
    refine r_run 2 (pc' := 49) (ls' := [some (yr 0), some (yi s), some (yi h), some (yi q)]) (st' := [yi 6, yi q]) (M' := M) (N' := N) rfl ?_
    refine r_icmp_ge (pc := 49) f_80_49 (by omega) (by omega) (fun h49 => ?_) (fun h49 => ?_)
    · exfalso; omega
    · refine r_run 3 (pc' := 57) (ls' := [some (yr 0), some (yi s), some (yi h), some (yi q)]) (st' := [yi s, yr 32]) (M' := M) (N' := N) rfl ?_
      refine r_aald (r := 67 + 2 * s) (kd := 103) (n := 4) f_80_57 (by decide) (by decide) (by decide) (by decide) (by omega) (rf_sheet (by omega)) ?_
      refine r_run 2 (pc' := 60) (ls' := [some (yr 0), some (yi s), some (yi h), some (yi q)]) (st' := [yi h, yi q, yr (67 + 2 * s)]) (M' := M) (N' := N) rfl ?_
      refine r_if_ne (pc := 60) f_80_60 (by omega) (fun h60 => ?_) (fun h60 => ?_)
      · refine r_run 4 (pc' := 83) (ls' := [some (yr 0), some (yi s), some (yi h), some (yi q)]) (st' := [yi q, yr 37, yi q, yr (67 + 2 * s)]) (M' := M) (N' := N) rfl ?_
        refine r_iald (n := 6) f_80_83 (by decide) (by decide) (by decide) (by omega) ?_
        refine r_virtual (mj := 31) (b := 67 + 2 * s) (as := [yi q, yi (M 37 q)]) (rest := []) f_80_84 (by decide) rfl m_31 (by decide) (by omega) (by rw [(yk_sheet (by omega))]; rfl) rfl rfl (Nat.le_of_ble_eq_true rfl) (by omega) (c_put (by omega) (by omega) (by omega) (by omega)) ?_
        rintro _ M4 _ ⟨rfl, hM4, rfl⟩
        rw [h2, hCut2] at hM4
        refine r_run 2 (pc' := 46) (ls' := [some (yr 0), some (yi s), some (yi h), some (yi (q + 1))]) (st' := []) (M' := M4) (N' := N) rfl ?_
        have hc : M 37 q = fv O h q := by
          unfold fv
          rw [if_neg (by omega)]; omega
        rw [hc] at hM4
        have f4 : ∀ c, c ≠ 68 + 2 * s → M4 c = M c := fun c hc => by rw [← hM4, yu_rn hc]
        have f5 : ∀ i, i ≠ q → M4 (68 + 2 * s) i = M (68 + 2 * s) i := fun i hi => by rw [← hM4, yu_ne (Or.inr hi)]
        have f6 : M4 (68 + 2 * s) q = fv O h q := by rw [← hM4, yu_at]
        refine ih (by omega) (by omega) (hA.fr fun c hc => f4 c (by omega)) (by rw [f4 _ (by omega)]; exact h2) fun M' g1 g2 g3 => kk M' (fun c hc => by rw [g1 c hc, f4 c hc]) (fun i i0 => ?_) (fun i i0 i1 => ?_)
        · rw [g2 i (by omega), f5 i (by omega)]
        · by_cases hi : i = q
          · rw [hi, g2 q (by omega), f6]
          · exact g3 i (by omega) i1
      · refine r_run 4 (pc' := 71) (ls' := [some (yr 0), some (yi s), some (yi h), some (yi q)]) (st' := [yi q, yr 36, yi q, yr (67 + 2 * s)]) (M' := M) (N' := N) rfl ?_
        refine r_iald (n := 6) f_80_71 (by decide) (by decide) (by decide) (by omega) ?_
        refine r_run 1 (pc' := 84) (ls' := [some (yr 0), some (yi s), some (yi h), some (yi q)]) (st' := [yi (M 36 q), yi q, yr (67 + 2 * s)]) (M' := M) (N' := N) rfl ?_
        refine r_virtual (mj := 31) (b := 67 + 2 * s) (as := [yi q, yi (M 36 q)]) (rest := []) f_80_84 (by decide) rfl m_31 (by decide) (by omega) (by rw [(yk_sheet (by omega))]; rfl) rfl rfl (Nat.le_of_ble_eq_true rfl) (by omega) (c_put (by omega) (by omega) (by omega) (by omega)) ?_
        rintro _ M4 _ ⟨rfl, hM4, rfl⟩
        rw [h2, hCut2] at hM4
        refine r_run 2 (pc' := 46) (ls' := [some (yr 0), some (yi s), some (yi h), some (yi (q + 1))]) (st' := []) (M' := M4) (N' := N) rfl ?_
        have hc : M 36 q = fv O h q := by
          unfold fv
          rw [if_pos (by omega)]; omega
        rw [hc] at hM4
        have f4 : ∀ c, c ≠ 68 + 2 * s → M4 c = M c := fun c hc => by rw [← hM4, yu_rn hc]
        have f5 : ∀ i, i ≠ q → M4 (68 + 2 * s) i = M (68 + 2 * s) i := fun i hi => by rw [← hM4, yu_ne (Or.inr hi)]
        have f6 : M4 (68 + 2 * s) q = fv O h q := by rw [← hM4, yu_at]
        refine ih (by omega) (by omega) (hA.fr fun c hc => f4 c (by omega)) (by rw [f4 _ (by omega)]; exact h2) fun M' g1 g2 g3 => kk M' (fun c hc => by rw [g1 c hc, f4 c hc]) (fun i i0 => ?_) (fun i i0 i1 => ?_)
        · rw [g2 i (by omega), f5 i (by omega)]
        · by_cases hi : i = q
          · rw [hi, g2 q (by omega), f6]
          · exact g3 i (by omega) i1
theorem c_film {S : XS} {M N : YM} {s h : Int} (hqs : -2147483648 ≤ s ∧ s < 2147483648) (hqh : -2147483648 ≤ h ∧ h < 2147483648) (R : Rel M) : rm S 6 80 [yr 0, yi s, yi h] M N (fun r M' _ => ∃ v : Int, some (yi v) = r ∧ v = fFilm s h M ∧ if v = 6 then filmC s h M M' else eqn M M') := by
  refine ⟨xe_80, m_80, Nat.le_of_ble_eq_true rfl, ?_⟩
  refine r_run 1 (pc' := 1) (ls' := [some (yr 0), some (yi s), some (yi h), none]) (st' := [yi s]) (M' := M) (N' := N) rfl ?_
  refine r_static (mj := 93) (as := [yi s]) (rest := []) f_80_1 (by decide) rfl m_93 rfl rfl rfl (Nat.le_of_ble_eq_true rfl) (by omega) (c_isSheet (by omega)) ?_
  rintro _ _ _ ⟨v1, rfl, hv1, rfl, rfl⟩
  refine r_if_ne (pc := 4) f_80_4 (by omega) (fun h4 => ?_) (fun h4 => ?_)
  · refine r_run 3 (pc' := 13) (ls' := [some (yr 0), some (yi s), some (yi h), none]) (st' := [yi 1, yi 0, yi h]) (M' := M) (N' := N) rfl ?_
    refine r_static (mj := 90) (as := [yi h, yi 0, yi 1]) (rest := []) f_80_13 (by decide) rfl m_90 rfl rfl rfl (Nat.le_of_ble_eq_true rfl) (by omega) (c_within (by omega) (by omega) (by omega)) ?_
    rintro _ _ _ ⟨v13, rfl, hv13, rfl, rfl⟩
    refine r_if_ne (pc := 16) f_80_16 (by omega) (fun h16 => ?_) (fun h16 => ?_)
    · refine r_run 1 (pc' := 23) (ls' := [some (yr 0), some (yi s), some (yi h), none]) (st' := [yr 0]) (M' := M) (N' := N) rfl ?_
      refine r_virtual (mj := 97) (b := 0) (as := []) (rest := []) f_80_23 (by decide) rfl m_97 (by decide) (by decide) (by decide) rfl rfl (Nat.le_of_ble_eq_true rfl) (by omega) (c_can1 R) ?_
      rintro _ M2 _ ⟨v, rfl, ⟨hv, hv01, hat, hBE, hfr, R2, hq, hT⟩, rfl⟩
      refine r_if_ne (pc := 26) f_80_26 (by omega) (fun h26 => ?_) (fun h26 => ?_)
      · refine r_run 3 (pc' := 37) (ls' := [some (yr 0), some (yi s), some (yi h), none]) (st' := [yi s, yr 32]) (M' := M2) (N' := N) rfl ?_
        refine r_aald (r := 67 + 2 * s) (kd := 103) (n := 4) f_80_37 (by decide) (by decide) (by decide) (by decide) (by omega) (rf_sheet (by omega)) ?_
        refine r_run 2 (pc' := 41) (ls' := [some (yr 0), some (yi s), some (yi h), none]) (st' := [yi 6, yi 2, yr (67 + 2 * s)]) (M' := M2) (N' := N) rfl ?_
        refine r_virtual (mj := 30) (b := 67 + 2 * s) (as := [yi 2, yi 6]) (rest := []) f_80_41 (by decide) rfl m_30 (by decide) (by omega) (by rw [(yk_sheet (by omega))]; rfl) rfl rfl (Nat.le_of_ble_eq_true rfl) (by omega) (c_becomes (by omega)) ?_
        rintro _ M3 _ ⟨rfl, hM3, rfl⟩
        refine r_run 2 (pc' := 46) (ls' := [some (yr 0), some (yi s), some (yi h), some (yi 0)]) (st' := []) (M' := M3) (N' := N) rfl ?_
        have f3 : ∀ c, c ≠ 67 + 2 * s → c ≠ 68 + 2 * s → M3 c = M2 c := fun c g1 g2 => by
          funext k
          rw [← hM3, yfill_ne (by omega), yu_ne (by omega), yu_ne (by omega)]
        have k1 : M3 (67 + 2 * s) 1 = 2 := by rw [← hM3, yfill_ne (by omega), yu_ne (by omega), yu_at]
        have k2 : M3 (67 + 2 * s) 2 = 6 := by rw [← hM3, yfill_ne (by omega), yu_at]
        have k3 : ∀ i, 0 ≤ i → i < 40 → M3 (68 + 2 * s) i = 0 := fun i i0 i1 => by rw [← hM3, yfill_at (by omega)]
        refine c_film_l (O := nT M) (j := 6) (by omega) (by omega) (by omega) (Int.le_refl 0) rfl ((hat (by omega)).fr fun c hc => f3 c (by omega) (by omega)) k1 fun M' g1 g2 g3 => ?_
        refine ⟨6, rfl, by unfold fFilm; rw [if_neg (by omega), if_neg (by omega), if_neg (by omega)], ?_⟩
        rw [if_pos rfl]
        refine ⟨fun c k n1 n2 n3 => ?_, ?_, ?_, fun i i0 i1 => ?_⟩
        · rw [g1 c n3, f3 c n2 n3, hq c k n1]
        · rw [g1 _ (by omega), k1]
        · rw [g1 _ (by omega), k2]
        · by_cases hi : i < 6
          · rw [if_pos hi]; exact g3 i i0 hi
          · rw [if_neg hi, g2 i (by omega)]; exact k3 i i0 i1
      · refine r_run 1 (pc' := 31) (ls' := [some (yr 0), some (yi s), some (yi h), none]) (st' := [yi (-9)]) (M' := M2) (N' := N) rfl ?_
        refine r_iret m_80 rfl f_80_31 ?_
        exact ⟨_, rfl, by unfold fFilm; rw [if_neg (by omega), if_neg (by omega), if_pos (by omega)], by rw [if_neg (by decide)]; exact hq⟩
    · refine r_run 1 (pc' := 21) (ls' := [some (yr 0), some (yi s), some (yi h), none]) (st' := [yi (-7)]) (M' := M) (N' := N) rfl ?_
      refine r_iret m_80 rfl f_80_21 ?_
      exact ⟨_, rfl, by unfold fFilm; rw [if_neg (by omega), if_pos (by omega)], by rw [if_neg (by decide)]; exact eqn.refl⟩
  · refine r_run 1 (pc' := 9) (ls' := [some (yr 0), some (yi s), some (yi h), none]) (st' := [yi (-2)]) (M' := M) (N' := N) rfl ?_
    refine r_iret m_80 rfl f_80_9 ?_
    exact ⟨_, rfl, by unfold fFilm; rw [if_pos (by omega)], by rw [if_neg (by decide)]; exact eqn.refl⟩
theorem m_film_l {S : XS} {d : Nat} {s h : Int} {O : Int → Int → Int} {N : YM} {Q : Option YV → YM → YM → Prop} (hd : 1 ≤ d) (hs : 0 ≤ s ∧ s < 4) (hh : 0 ≤ h ∧ h ≤ 1) {j : Nat} : ∀ {q : Int} {M : YM}, 0 ≤ q → q + j = 40 → mAt M O → (∀ M', (∀ c, c ≠ 84 → M' c = M c) → (∀ k, k < 40 * s + q ∨ 40 * s + 40 ≤ k → M' 84 k = M 84 k) → (∀ i, q ≤ i → i < 40 → M' 84 (40 * s + i) = if i < 6 then fv O h i else 0) → Q (some (yi 6)) M' N) → ry S d 180 51 [some (yr 75), some (yi s), some (yi h), some (yi q)] [] M N Q := by
  induction j with
  | zero =>
    intro q M h0 h1 hA kk
    refine r_run 2 (pc' := 54) (ls' := [some (yr 75), some (yi s), some (yi h), some (yi q)]) (st' := [yi 40, yi q]) (M' := M) (N' := N) rfl ?_
    refine r_icmp_ge (pc := 54) f_180_54 (by omega) (by omega) (fun h54 => ?_) (fun h54 => ?_)
    · refine r_run 1 (pc' := 103) (ls' := [some (yr 75), some (yi s), some (yi h), some (yi q)]) (st' := [yi 6]) (M' := M) (N' := N) rfl ?_
      refine r_iret m_180 rfl f_180_103 ?_
      exact kk M (fun c _ => rfl) (fun i _ => rfl) (fun i i0 i1 => by omega)
    · exfalso; omega
  | succ j ih =>
    intro q M h0 h1 hA kk
    refine r_run 2 (pc' := 54) (ls' := [some (yr 75), some (yi s), some (yi h), some (yi q)]) (st' := [yi 40, yi q]) (M' := M) (N' := N) rfl ?_
    refine r_icmp_ge (pc := 54) f_180_54 (by omega) (by omega) (fun h54 => ?_) (fun h54 => ?_)
    · exfalso; omega
    · refine r_run 9 (pc' := 70) (ls' := [some (yr 75), some (yi s), some (yi h), some (yi q)]) (st' := [yi 6, yi q, yi ((40 * s) + q), yr 84]) (M' := M) (N' := N) rfl ?_
      refine r_icmp_lt (pc := 70) f_180_70 (by omega) (by omega) (fun h70 => ?_) (fun h70 => ?_)
      · refine r_run 1 (pc' := 78) (ls' := [some (yr 75), some (yi s), some (yi h), some (yi q)]) (st' := [yi h, yi ((40 * s) + q), yr 84]) (M' := M) (N' := N) rfl ?_
        refine r_if_ne (pc := 78) f_180_78 (by omega) (fun h78 => ?_) (fun h78 => ?_)
        · refine r_run 2 (pc' := 91) (ls' := [some (yr 75), some (yi s), some (yi h), some (yi q)]) (st' := [yi q, yr 75, yi ((40 * s) + q), yr 84]) (M' := M) (N' := N) rfl ?_
          refine r_virtual (mj := 150) (b := 75) (as := [yi q]) (rest := [yi ((40 * s) + q), yr 84]) f_180_91 (by decide) rfl m_150 (by decide) (by decide) (by decide) rfl rfl (Nat.le_of_ble_eq_true rfl) (by omega) (m_high (by omega)) ?_
          rintro _ _ _ ⟨v91, rfl, hv91, rfl, rfl⟩
          refine r_iast (n := 160) f_180_94 (by decide) (by decide) (by decide) (by omega) ?_
          refine r_run 2 (pc' := 51) (ls' := [some (yr 75), some (yi s), some (yi h), some (yi (q + 1))]) (st' := []) (M' := (yu M 84 ((40 * s) + q) v91)) (N' := N) rfl ?_
          have hc : v91 = if q < 6 then fv O h q else 0 := by rw [if_pos (by omega)]; unfold fv; rw [if_neg (by omega), hv91, (hA.lh (q := q) ⟨h0, by omega⟩).2.1]
          rw [hc]
          refine ih (by omega) (by omega) (hA.fr (yu_rn (by decide))) fun M' g1 g2 g3 => kk M' (fun c hc => by rw [g1 c hc, yu_rn hc]) (fun i i0 => ?_) (fun i i0 i1 => ?_)
          · rw [g2 i (by omega), yu_ne (by omega)]
          · by_cases hi : i = q
            · rw [hi, g2 _ (by omega), yu_at]
            · exact g3 i (by omega) i1
        · refine r_run 2 (pc' := 83) (ls' := [some (yr 75), some (yi s), some (yi h), some (yi q)]) (st' := [yi q, yr 75, yi ((40 * s) + q), yr 84]) (M' := M) (N' := N) rfl ?_
          refine r_virtual (mj := 149) (b := 75) (as := [yi q]) (rest := [yi ((40 * s) + q), yr 84]) f_180_83 (by decide) rfl m_149 (by decide) (by decide) (by decide) rfl rfl (Nat.le_of_ble_eq_true rfl) (by omega) (m_low (by omega)) ?_
          rintro _ _ _ ⟨v83, rfl, hv83, rfl, rfl⟩
          refine r_run 1 (pc' := 94) (ls' := [some (yr 75), some (yi s), some (yi h), some (yi q)]) (st' := [yi v83, yi ((40 * s) + q), yr 84]) (M' := M) (N' := N) rfl ?_
          refine r_iast (n := 160) f_180_94 (by decide) (by decide) (by decide) (by omega) ?_
          refine r_run 2 (pc' := 51) (ls' := [some (yr 75), some (yi s), some (yi h), some (yi (q + 1))]) (st' := []) (M' := (yu M 84 ((40 * s) + q) v83)) (N' := N) rfl ?_
          have hc : v83 = if q < 6 then fv O h q else 0 := by rw [if_pos (by omega)]; unfold fv; rw [if_pos (by omega), hv83, (hA.lh (q := q) ⟨h0, by omega⟩).1]
          rw [hc]
          refine ih (by omega) (by omega) (hA.fr (yu_rn (by decide))) fun M' g1 g2 g3 => kk M' (fun c hc => by rw [g1 c hc, yu_rn hc]) (fun i i0 => ?_) (fun i i0 i1 => ?_)
          · rw [g2 i (by omega), yu_ne (by omega)]
          · by_cases hi : i = q
            · rw [hi, g2 _ (by omega), yu_at]
            · exact g3 i (by omega) i1
      · refine r_run 2 (pc' := 94) (ls' := [some (yr 75), some (yi s), some (yi h), some (yi q)]) (st' := [yi 0, yi ((40 * s) + q), yr 84]) (M' := M) (N' := N) rfl ?_
        refine r_iast (n := 160) f_180_94 (by decide) (by decide) (by decide) (by omega) ?_
        refine r_run 2 (pc' := 51) (ls' := [some (yr 75), some (yi s), some (yi h), some (yi (q + 1))]) (st' := []) (M' := (yu M 84 ((40 * s) + q) 0)) (N' := N) rfl ?_
        have hc : 0 = if q < 6 then fv O h q else 0 := by rw [if_neg (by omega)]
        rw [hc]
        refine ih (by omega) (by omega) (hA.fr (yu_rn (by decide))) fun M' g1 g2 g3 => kk M' (fun c hc => by rw [g1 c hc, yu_rn hc]) (fun i i0 => ?_) (fun i i0 i1 => ?_)
        · rw [g2 i (by omega), yu_ne (by omega)]
        · by_cases hi : i = q
          · rw [hi, g2 _ (by omega), yu_at]
          · exact g3 i (by omega) i1
theorem m_film {S : XS} {M N : YM} {s h : Int} (hqs : -2147483648 ≤ s ∧ s < 2147483648) (hqh : -2147483648 ≤ h ∧ h < 2147483648) (hS : RS M M) (hL : RL M M) : rm S 4 180 [yr 75, yi s, yi h] M N (fun r M' _ => ∃ v : Int, some (yi v) = r ∧ v = fFilm s h M ∧ if v = 6 then filmM s h M M' else eqn M M') := by
  refine ⟨xe_180, m_180, Nat.le_of_ble_eq_true rfl, ?_⟩
  refine r_run 3 (pc' := 3) (ls' := [some (yr 75), some (yi s), some (yi h), none]) (st' := [yi 3, yi 0, yi s]) (M' := M) (N' := N) rfl ?_
  refine r_static (mj := 112) (as := [yi s, yi 0, yi 3]) (rest := []) f_180_3 (by decide) rfl m_112 rfl rfl rfl (Nat.le_of_ble_eq_true rfl) (by omega) (m_in (by omega) (by omega) (by omega)) ?_
  rintro _ _ _ ⟨v3, rfl, hv3, rfl, rfl⟩
  refine r_if_ne (pc := 6) f_180_6 (by omega) (fun h6 => ?_) (fun h6 => ?_)
  · refine r_run 3 (pc' := 15) (ls' := [some (yr 75), some (yi s), some (yi h), none]) (st' := [yi 1, yi 0, yi h]) (M' := M) (N' := N) rfl ?_
    refine r_static (mj := 112) (as := [yi h, yi 0, yi 1]) (rest := []) f_180_15 (by decide) rfl m_112 rfl rfl rfl (Nat.le_of_ble_eq_true rfl) (by omega) (m_in (by omega) (by omega) (by omega)) ?_
    rintro _ _ _ ⟨v15, rfl, hv15, rfl, rfl⟩
    refine r_if_ne (pc := 18) f_180_18 (by omega) (fun h18 => ?_) (fun h18 => ?_)
    · refine r_run 1 (pc' := 25) (ls' := [some (yr 75), some (yi s), some (yi h), none]) (st' := [yr 75]) (M' := M) (N' := N) rfl ?_
      refine r_virtual (mj := 148) (b := 75) (as := []) (rest := []) f_180_25 (by decide) rfl m_148 (by decide) (by decide) (by decide) rfl rfl (Nat.le_of_ble_eq_true rfl) (by omega) (m_canNow hS hL) ?_
      rintro _ M2 _ ⟨v, rfl, ⟨hfr, -, hv⟩, rfl⟩
      have hq : eqn M M2 := eqn.of fun c hc => hfr c (by omega)
      have hnv : (v = 1 ∧ nV M = 1 ∧ mAt M2 (nT M)) ∨ (v = 0 ∧ nV M = 0) := by
        rcases hv with ⟨a, b, c⟩ | ⟨a, b⟩
        · exact Or.inl ⟨a, nV_yes b, c⟩
        · exact Or.inr ⟨a, nV_no b⟩
      have hv01 : (v = 1 ∧ nV M = 1) ∨ (v = 0 ∧ nV M = 0) := by
        rcases hnv with ⟨a, b, -⟩ | h
        · exact Or.inl ⟨a, b⟩
        · exact Or.inr h
      refine r_if_ne (pc := 28) f_180_28 (by omega) (fun h28 => ?_) (fun h28 => ?_)
      · refine r_run 4 (pc' := 40) (ls' := [some (yr 75), some (yi s), some (yi h), none]) (st' := [yi 2, yi s, yr 82]) (M' := M2) (N' := N) rfl ?_
        refine r_iast (n := 4) f_180_40 (by decide) (by decide) (by decide) (by omega) ?_
        refine r_run 4 (pc' := 48) (ls' := [some (yr 75), some (yi s), some (yi h), none]) (st' := [yi 6, yi s, yr 83]) (M' := (yu M2 82 s 2)) (N' := N) rfl ?_
        refine r_iast (n := 4) f_180_48 (by decide) (by decide) (by decide) (by omega) ?_
        refine r_run 2 (pc' := 51) (ls' := [some (yr 75), some (yi s), some (yi h), some (yi 0)]) (st' := []) (M' := (yu (yu M2 82 s 2) 83 s 6)) (N' := N) rfl ?_
        have hA : mAt M2 (nT M) := by
          rcases hnv with ⟨a, b, c⟩ | ⟨a, b⟩
          · exact c
          · exfalso; omega
        have f3 : ∀ c, c ≠ 82 → c ≠ 83 → yu (yu M2 82 s 2) 83 s 6 c = M2 c := fun c g1 g2 => by rw [yu_rn g2, yu_rn g1]
        refine m_film_l (O := nT M) (j := 40) (by omega) (by omega) (by omega) (Int.le_refl 0) rfl (hA.fr (f3 92 (by decide) (by decide))) fun M' g1 g2 g3 => ?_
        refine ⟨6, rfl, by unfold fFilm; rw [if_neg (by omega), if_neg (by omega), if_neg (by omega)], ?_⟩
        rw [if_pos rfl]
        refine ⟨fun c k n1 n2 n3 => ?_, ?_, ?_, fun i i0 i1 => ?_, hA.o⟩
        · by_cases hc : c = 84
          · rw [hc] at n1 ⊢
            rw [g2 k (by omega), f3 84 (by decide) (by decide), hq 84 k n1]
          · rw [g1 c hc, yu_ne (by omega), yu_ne (by omega), hq c k n1]
        · rw [g1 82 (by decide), yu_rn (by decide), yu_at]
        · rw [g1 83 (by decide), yu_at]
        · exact g3 i i0 i1
      · refine r_run 1 (pc' := 33) (ls' := [some (yr 75), some (yi s), some (yi h), none]) (st' := [yi (-9)]) (M' := M2) (N' := N) rfl ?_
        refine r_iret m_180 rfl f_180_33 ?_
        exact ⟨_, rfl, by unfold fFilm; rw [if_neg (by omega), if_neg (by omega), if_pos (by omega)], by rw [if_neg (by decide)]; exact hq⟩
    · refine r_run 1 (pc' := 23) (ls' := [some (yr 75), some (yi s), some (yi h), none]) (st' := [yi (-7)]) (M' := M) (N' := N) rfl ?_
      refine r_iret m_180 rfl f_180_23 ?_
      exact ⟨_, rfl, by unfold fFilm; rw [if_neg (by omega), if_pos (by omega)], by rw [if_neg (by decide)]; exact eqn.refl⟩
  · refine r_run 1 (pc' := 11) (ls' := [some (yr 75), some (yi s), some (yi h), none]) (st' := [yi (-2)]) (M' := M) (N' := N) rfl ?_
    refine r_iret m_180 rfl f_180_11 ?_
    exact ⟨_, rfl, by unfold fFilm; rw [if_pos (by omega)], by rw [if_neg (by decide)]; exact eqn.refl⟩
theorem RH.one2 {M M2 : YM} (h : RH M M) {s : Int} (hs : 0 ≤ s ∧ s < 4) (fr : ∀ c k, 67 ≤ c → c ≤ 84 → c ≠ 75 → c ≠ 67 + 2 * s → c ≠ 68 + 2 * s → (c ≠ 82 ∧ c ≠ 83) ∨ k ≠ s → c ≠ 84 ∨ k < 40 * s ∨ 40 * s + 40 ≤ k → M2 c k = M c k)
    (n : M2 (67 + 2 * s) 1 = M2 82 s ∧ M2 (67 + 2 * s) 2 = M2 83 s ∧ (-1 ≤ M2 82 s ∧ M2 82 s ≤ 2) ∧ (0 ≤ M2 83 s ∧ M2 83 s ≤ 40) ∧ ∀ i : Int, 0 ≤ i → i < 40 → M2 (68 + 2 * s) i = M2 84 (40 * s + i) ∧ (-2147483648 ≤ M2 84 (40 * s + i) ∧ M2 84 (40 * s + i) < 2147483648)) : RH M2 M2 := by
  intro q q0 q1
  by_cases hq : q = s
  · rw [hq]; exact n
  · rw [fr (67 + 2 * q) 1 (by omega) (by omega) (by omega) (by omega) (by omega) (by omega) (by omega), fr (67 + 2 * q) 2 (by omega) (by omega) (by omega) (by omega) (by omega) (by omega) (by omega), fr 82 q (by omega) (by omega) (by omega) (by omega) (by omega) (by omega) (by omega), fr 83 q (by omega) (by omega) (by omega) (by omega) (by omega) (by omega) (by omega)]
    obtain ⟨e1, e2, e3, e4, e5⟩ := h q q0 q1
    refine ⟨e1, e2, e3, e4, fun i i0 i1 => ?_⟩
    rw [fr (68 + 2 * q) i (by omega) (by omega) (by omega) (by omega) (by omega) (by omega) (by omega), fr 84 (40 * q + i) (by omega) (by omega) (by omega) (by omega) (by omega) (by omega) (by omega)]
    exact e5 i i0 i1
theorem p_film {S : XS} {M N : YM} {s h : Int} (qs : -2147483648 ≤ s ∧ s < 2147483648) (qh : -2147483648 ≤ h ∧ h < 2147483648) (R : Rel M) : pri S 80 180 [yi s, yi h] M N := by
  refine rm_post (rm_deep (by decide) (c_film qs qh R)) ?_
  rintro _ M1 N1 ⟨v, rfl, hv, g⟩
  by_cases h6 : v = 6
  · rw [if_pos h6] at g
    obtain ⟨g1, g2, g3, g4⟩ := g
    have hs0 : 0 ≤ s ∧ s < 4 := by
      rw [h6] at hv
      unfold fFilm at hv
      (repeat' split at hv) <;> omega
    have S1 : RS M1 M1 := R.s.fr (fun c k hc => g1 c k (by unfold sc; omega) (by omega) (by omega)) (fun c k hc => g1 c k (by unfold sc; omega) (by omega) (by omega))
    have L1 : RL M1 M1 := R.l.fr (fun c k hc => g1 c k (by unfold sc; omega) (by omega) (by omega)) (fun c k hc => g1 c k (by unfold sc; omega) (by omega) (by omega))
    have e1 : eqs M M1 := ⟨g1 _ _ (by unfold sc; omega) (by omega) (by omega), g1 _ _ (by unfold sc; omega) (by omega) (by omega), g1 _ _ (by unfold sc; omega) (by omega) (by omega), funext fun k => g1 _ _ (by unfold sc; omega) (by omega) (by omega), funext fun k => g1 _ _ (by unfold sc; omega) (by omega) (by omega)⟩
    refine ⟨v, rfl, rm_post (rm_deep (by decide) (m_film qs qh S1 L1)) ?_⟩
    rintro _ M2 N2 ⟨v2, rfl, hv2, k⟩
    rw [fFilm_eq e1, ← hv] at hv2
    refine ⟨by rw [hv2], ?_⟩
    rw [if_pos (by omega)] at k
    obtain ⟨k1, k2, k3, k4, k5⟩ := k
    have fr : ∀ c k, ¬ sc c k → c ≠ 67 + 2 * s → c ≠ 68 + 2 * s → (c ≠ 82 ∧ c ≠ 83) ∨ k ≠ s → c ≠ 84 ∨ k < 40 * s ∨ 40 * s + 40 ≤ k → M2 c k = M c k := fun c k n0 n1 n2 n3 n4 => by rw [k1 c k n0 n3 n4, g1 c k n0 n1 n2]
    have c1 : ∀ k, M2 (67 + 2 * s) k = M1 (67 + 2 * s) k := fun k => k1 _ _ (by unfold sc; omega) (by omega) (by omega)
    have c2 : ∀ k, M2 (68 + 2 * s) k = M1 (68 + 2 * s) k := fun k => k1 _ _ (by unfold sc; omega) (by omega) (by omega)
    have hN : RH M2 M2 := R.h.one2 hs0 (fun c k a1 a2 a3 a4 a5 a6 a7 => fr c k (by unfold sc; omega) a4 a5 a6 a7) ⟨by rw [c1, g2, k2], by rw [c1, g3, k3], by rw [k2]; omega, by rw [k3]; omega, fun i i0 i1 => by
      rw [c2, g4 i i0 i1, k4 i i0 i1, e1.eT]
      refine ⟨rfl, ?_⟩
      rw [e1.eT] at k5
      split
      · have := fv_in k5 h (i := i) ⟨i0, by omega⟩
        omega
      · omega⟩
    exact ⟨R.s.fr (fun c k h => fr c k (by unfold sc; omega) (by omega) (by omega) (by omega) (by omega)) (fun c k h => fr c k (by unfold sc; omega) (by omega) (by omega) (by omega) (by omega)), R.l.fr (fun c k h => fr c k (by unfold sc; omega) (by omega) (by omega) (by omega) (by omega)) (fun c k h => fr c k (by unfold sc; omega) (by omega) (by omega) (by omega) (by omega)), hN, R.i.fr (fun c k h => fr c k (by unfold sc; omega) (by omega) (by omega) (by omega) (by omega)) (fun c k h => fr c k (by unfold sc; omega) (by omega) (by omega) (by omega) (by omega)), R.t.fr (fun c k h => fr c k (by unfold sc; omega) (by omega) (by omega) (by omega) (by omega)) (fun c k h => fr c k (by unfold sc; omega) (by omega) (by omega) (by omega) (by omega)), R.r.fr (fun c k h => fr c k (by unfold sc; omega) (by omega) (by omega) (by omega) (by omega)) (fun c k h => fr c k (by unfold sc; omega) (by omega) (by omega) (by omega) (by omega)), fun k hk => (fr 86 k (by unfold sc; omega) (by omega) (by omega) (by omega) (by omega)).trans (R.w k hk)⟩
  · rw [if_neg h6] at g
    have R1 := R.congr g
    refine ⟨v, rfl, rm_post (rm_deep (by decide) (m_film qs qh R1.s R1.l)) ?_⟩
    rintro _ M2 N2 ⟨v2, rfl, hv2, k⟩
    rw [fFilm_eq g.eqs, ← hv] at hv2
    rw [if_neg (by omega)] at k
    exact ⟨by rw [hv2], R1.congr k⟩
