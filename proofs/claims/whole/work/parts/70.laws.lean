/-! what texts tell of a sheet -/
def shN (M : YM) (s q : Int) : Int := M 84 (40 * s + q)
theorem eqn.eH {M M' : YM} (e : eqn M M') : shN M' = shN M := by
  funext s q
  exact e 84 _ (by unfold sc; omega)
theorem shN_in {M : YM} (R : Rel M) {s : Int} (hs : 0 ≤ s ∧ s < 4) : ∀ q, in6 q → -2147483648 ≤ shN M s q ∧ shN M s q < 2147483648 := fun q hq => ((R.h s hs.1 hs.2).2.2.2.2 q hq.1 (by omega)).2
theorem shN_c {M : YM} (R : Rel M) {s : Int} (hs : 0 ≤ s ∧ s < 4) : ∀ q, in6 q → M (68 + 2 * s) q = shN M s q := fun q hq => ((R.h s hs.1 hs.2).2.2.2.2 q hq.1 (by omega)).1
theorem hW_s {M : YM} {s : Int} (h : hWrong M s = 0) : 0 ≤ s ∧ s < 4 := by
  unfold hWrong at h
  (repeat' split at h) <;> omega
theorem hW_in {M : YM} {s : Int} : hWrong M s = 0 ∨ hWrong M s = -2 ∨ hWrong M s = -11 := by
  unfold hWrong
  (repeat' split) <;> omega
theorem c_tellS2 {S : XS} {M N : YM} {s t p : Int} (hs : 0 ≤ s ∧ s < 4) (R : Rel M) (ht : 0 ≤ t ∧ t < M 75 9) (hp : 0 ≤ p ∧ p < 3) : rm S 3 46 [yr (49 + 3 * t), yi p, yr (68 + 2 * s), yr 40] M N (fun r M' N' => ∃ v : Int, some (yi v) = r ∧ (v = txT M t p (shN M s) ∧ (-2147483648 ≤ v ∧ v < 2147483648) ∧ Rel M' ∧ eqn M M') ∧ N = N') := by
  refine rm_post (c_tellS1 hs R.t ht hp (fun q hq => by rw [shN_c R hs q hq]; exact shN_in R hs q hq)) ?_
  rintro _ M' _ ⟨v, rfl, ⟨hv, f⟩, rfl⟩
  rw [txT_congr R.t ht hp (shN_c R hs)] at hv
  have e : eqn M M' := eqn.of fun c hc => f c (by omega)
  exact ⟨v, rfl, ⟨hv, by rw [hv]; exact txT_in R.t ht hp (shN_in R hs), R.congr e, e⟩, rfl⟩
noncomputable def fReckon (s t : Int) (M : YM) : Int := if hWrong M s ≠ 0 ∨ (t < 0 ∨ M 75 9 ≤ t) then -4611686018427387904 else txT M t 0 (shN M s)
theorem fReckon_eq {s t : Int} {M M' : YM} (e : eqn M M') : fReckon s t M' = fReckon s t M := by
  unfold fReckon
  rw [hWrong_eq e, e.e9, e.eqx.eT, e.eH]
def lwB (M : YM) (s t : Int) : Int := if txT M t 2 (shN M s) = 0 then 1 else 0
def fLaws (s : Int) (M : YM) : Int := if hWrong M s = 0 then bitsR (lwB M s) (M 75 9).toNat 0 0 else hWrong M s
theorem eqn.eLw {M M' : YM} (e : eqn M M') : lwB M' = lwB M := by
  funext s t
  unfold lwB
  rw [e.eqx.eT, e.eH]
theorem fLaws_eq {s : Int} {M M' : YM} (e : eqn M M') : fLaws s M' = fLaws s M := by
  unfold fLaws
  rw [hWrong_eq e, e.e9, e.eLw]
theorem c_reckon {S : XS} {M N : YM} {s t : Int} (hqs : -2147483648 ≤ s ∧ s < 2147483648) (hqt : -2147483648 ≤ t ∧ t < 2147483648) (R : Rel M) : rm S 4 78 [yr 0, yi s, yi t] M N (fun r M' _ => ∃ v : Int, some (yj v) = r ∧ v = fReckon s t M ∧ eqn M M') := by
  refine ⟨xe_78, m_78, Nat.le_of_ble_eq_true rfl, ?_⟩
  refine r_run 2 (pc' := 2) (ls' := [some (yr 0), some (yi s), some (yi t)]) (st' := [yi s, yr 0]) (M' := M) (N' := N) rfl ?_
  refine r_virtual (mj := 108) (b := 0) (as := [yi s]) (rest := []) f_78_2 (by decide) rfl m_108 (by decide) (by decide) (by decide) rfl rfl (Nat.le_of_ble_eq_true rfl) (by omega) (c_refusal hqs R.h) ?_
  rintro _ _ _ ⟨w, rfl, hw, rfl, rfl⟩
  have hwi := @hW_in M s
  refine r_if_ne (pc := 5) f_78_5 (by omega) (fun h5 => ?_) (fun h5 => ?_)
  · refine r_run 1 (pc' := 19) (ls' := [some (yr 0), some (yi s), some (yi t)]) (st' := [yj (-4611686018427387904)]) (M' := M) (N' := N) rfl ?_
    refine r_lret m_78 rfl f_78_19 ?_
    exact ⟨_, rfl, by unfold fReckon; rw [if_pos (by omega)], eqn.refl⟩
  · refine r_run 2 (pc' := 10) (ls' := [some (yr 0), some (yi s), some (yi t)]) (st' := [yi t, yr 0]) (M' := M) (N' := N) rfl ?_
    refine r_virtual (mj := 94) (b := 0) (as := [yi t]) (rest := []) f_78_10 (by decide) rfl m_94 (by decide) (by decide) (by decide) rfl rfl (Nat.le_of_ble_eq_true rfl) (by omega) (c_isText (by assumption) (by have := R.t.1; have := R.t.2.1; omega)) ?_
    rintro _ _ _ ⟨vt, rfl, hvt, rfl, rfl⟩
    have e5 := R.t.1
    have e59 := R.t.2.1
    refine r_if_ne (pc := 13) f_78_13 (by omega) (fun h13 => ?_) (fun h13 => ?_)
    · have hs0 : 0 ≤ s ∧ s < 4 := hW_s (M := M) (by omega)
      refine r_run 3 (pc' := 25) (ls' := [some (yr 0), some (yi s), some (yi t)]) (st' := [yi t, yr 26]) (M' := M) (N' := N) rfl ?_
      refine r_aald (r := 49 + 3 * t) (kd := 105) (n := 6) f_78_25 (by decide) (by decide) (by decide) (by decide) (by omega) (rf_text (by omega)) ?_
      refine r_run 4 (pc' := 32) (ls' := [some (yr 0), some (yi s), some (yi t)]) (st' := [yi s, yr 32, yi 0, yr (49 + 3 * t)]) (M' := M) (N' := N) rfl ?_
      refine r_aald (r := 67 + 2 * s) (kd := 103) (n := 4) f_78_32 (by decide) (by decide) (by decide) (by decide) (by omega) (rf_sheet (by omega)) ?_
      refine r_getr (r := 68 + 2 * s) (n := 3) f_78_33 (by decide) (show xFT[17]? = some (3, 0) from rfl) (by decide) (by omega) (yk_sheet (by omega)) (rf_scell (by omega)) ?_
      refine r_run 2 (pc' := 40) (ls' := [some (yr 0), some (yi s), some (yi t)]) (st' := [yr 40, yr (68 + 2 * s), yi 0, yr (49 + 3 * t)]) (M' := M) (N' := N) rfl ?_
      refine r_virtual (mj := 46) (b := 49 + 3 * t) (as := [yi 0, yr (68 + 2 * s), yr 40]) (rest := []) f_78_40 (by decide) rfl m_46 (by decide) (by omega) (by rw [(yk_text (by omega))]; rfl) rfl rfl (Nat.le_of_ble_eq_true rfl) (by omega) (c_tellS2 hs0 R (t := t) (p := 0) (by omega) (by omega)) ?_
      rintro _ M3 _ ⟨v, rfl, ⟨hv, hvi, R3, e3⟩, rfl⟩
      refine r_i2l f_78_43 (by omega) ?_
      refine r_lret m_78 rfl f_78_44 ?_
      exact ⟨_, rfl, by unfold fReckon; rw [if_neg (by omega)]; exact hv, e3⟩
    · refine r_run 1 (pc' := 19) (ls' := [some (yr 0), some (yi s), some (yi t)]) (st' := [yj (-4611686018427387904)]) (M' := M) (N' := N) rfl ?_
      refine r_lret m_78 rfl f_78_19 ?_
      exact ⟨_, rfl, by unfold fReckon; rw [if_pos (by omega)], eqn.refl⟩
theorem m_names_l {S : XS} {d : Nat} {s : Int} {N : YM} {Q : Option YV → YM → YM → Prop} (hs : 0 ≤ s ∧ s < 4) {j : Nat} : ∀ {q : Int} {M : YM}, 0 ≤ q → q + j = 6 → (∀ M', (∀ c, c ≠ 89 → M' c = M c) → (∀ i, 0 ≤ i → i < q → M' 89 i = M 89 i) → (∀ i, q ≤ i → i < 6 → M' 89 i = shN M s i) → Q none M' N) → ry S d 177 2 [some (yr 75), some (yi s), some (yi q)] [] M N Q := by
  induction j with
  | zero =>
    intro q M h0 h1 kk
    refine r_run 2 (pc' := 5) (ls' := [some (yr 75), some (yi s), some (yi q)]) (st' := [yi 6, yi q]) (M' := M) (N' := N) rfl ?_
    refine r_icmp_ge (pc := 5) f_177_5 (by omega) (by omega) (fun h5 => ?_) (fun h5 => ?_)
    · refine r_vret m_177 rfl f_177_31 ?_
      exact kk M (fun c _ => rfl) (fun i _ _ => rfl) (fun i i0 i1 => by omega)
    · exfalso; omega
  | succ j ih =>
    intro q M h0 h1 kk
    refine r_run 2 (pc' := 5) (ls' := [some (yr 75), some (yi s), some (yi q)]) (st' := [yi 6, yi q]) (M' := M) (N' := N) rfl ?_
    refine r_icmp_ge (pc := 5) f_177_5 (by omega) (by omega) (fun h5 => ?_) (fun h5 => ?_)
    · exfalso; omega
    · refine r_run 10 (pc' := 23) (ls' := [some (yr 75), some (yi s), some (yi q)]) (st' := [yi ((40 * s) + q), yr 84, yi q, yr 89]) (M' := M) (N' := N) rfl ?_
      refine r_iald (n := 160) f_177_23 (by decide) (by decide) (by decide) (by omega) ?_
      refine r_iast (n := 6) f_177_24 (by decide) (by decide) (by decide) (by omega) ?_
      refine r_run 2 (pc' := 2) (ls' := [some (yr 75), some (yi s), some (yi (q + 1))]) (st' := []) (M' := (yu M 89 q (M 84 ((40 * s) + q)))) (N' := N) rfl ?_
      rw [yu_row]
      refine ih (by omega) (by omega) fun M' g1 g2 g3 => kk M' (fun c hc => by rw [g1 c hc, yrow_ne hc]) (fun i i0 i1 => ?_) (fun i i0 i1 => ?_)
      · rw [g2 i i0 (by omega), yrow_at, up_ne (by omega)]
      · by_cases hi : i = q
        · rw [hi, g2 q h0 (by omega), yrow_at, up_at]; rfl
        · rw [g3 i (by omega) i1]; unfold shN; rw [yrow_ne (by decide)]
theorem m_names {S : XS} {M N : YM} {s : Int} (hs : 0 ≤ s ∧ s < 4) (R : Rel M) : rm S 0 177 [yr 75, yi s] M N (fun r M' N' => none = r ∧ ((∀ q, in6 q → M' 89 q = shN M' s q) ∧ Rel M' ∧ eqn M M') ∧ N = N') := by
  refine ⟨xe_177, m_177, Nat.le_of_ble_eq_true rfl, ?_⟩
  refine r_run 2 (pc' := 2) (ls' := [some (yr 75), some (yi s), some (yi 0)]) (st' := []) (M' := M) (N' := N) rfl ?_
  refine m_names_l (j := 6) hs (Int.le_refl 0) rfl fun M' g1 _ g3 => ?_
  have e : eqn M M' := eqn.ofm fun c hc => g1 c (by omega)
  exact ⟨rfl, ⟨fun q hq => by rw [e.eH]; exact g3 q hq.1 (by omega), R.congr e, e⟩, rfl⟩
theorem m_saysS {S : XS} {M N : YM} {s t p : Int} (hs : 0 ≤ s ∧ s < 4) (R : Rel M) (hn : ∀ q, in6 q → M 89 q = shN M s q) (ht : 0 ≤ t ∧ t < M 75 9) (hp : 0 ≤ p ∧ p < 3) : rm S 4 158 [yr 75, yi t, yi p] M N (fun r M' N' => ∃ v : Int, some (yi v) = r ∧ (v = txT M t p (shN M s) ∧ (-2147483648 ≤ v ∧ v < 2147483648) ∧ (∀ q, in6 q → M' 89 q = shN M' s q) ∧ Rel M' ∧ eqn M M') ∧ N = N') := by
  refine rm_post (m_saysBy R.t ht hp (fun q hq => by rw [hn q hq]; exact shN_in R hs q hq)) ?_
  rintro _ M' _ ⟨v, rfl, ⟨hv, f⟩, rfl⟩
  rw [txT_congr R.t ht hp hn] at hv
  have e : eqn M M' := eqn.ofm fun c hc => f c (by omega)
  exact ⟨v, rfl, ⟨hv, by rw [hv]; exact txT_in R.t ht hp (shN_in R hs), fun q hq => by rw [f 89 (by decide), e.eH]; exact hn q hq, R.congr e, e⟩, rfl⟩
theorem m_reckon {S : XS} {M N : YM} {s t : Int} (hqs : -2147483648 ≤ s ∧ s < 2147483648) (hqt : -2147483648 ≤ t ∧ t < 2147483648) (R : Rel M) : rm S 5 178 [yr 75, yi s, yi t] M N (fun r M' _ => ∃ v : Int, some (yj v) = r ∧ v = fReckon s t M ∧ eqn M M') := by
  refine ⟨xe_178, m_178, Nat.le_of_ble_eq_true rfl, ?_⟩
  refine r_run 2 (pc' := 2) (ls' := [some (yr 75), some (yi s), some (yi t)]) (st' := [yi s, yr 75]) (M' := M) (N' := N) rfl ?_
  refine r_virtual (mj := 173) (b := 75) (as := [yi s]) (rest := []) f_178_2 (by decide) rfl m_173 (by decide) (by decide) (by decide) rfl rfl (Nat.le_of_ble_eq_true rfl) (by omega) (m_sheetWrong hqs R.h) ?_
  rintro _ _ _ ⟨w, rfl, hw, rfl, rfl⟩
  have hwi := @hW_in M s
  refine r_if_ne (pc := 5) f_178_5 (by omega) (fun h5 => ?_) (fun h5 => ?_)
  · refine r_run 1 (pc' := 19) (ls' := [some (yr 75), some (yi s), some (yi t)]) (st' := [yj (-4611686018427387904)]) (M' := M) (N' := N) rfl ?_
    refine r_lret m_178 rfl f_178_19 ?_
    exact ⟨_, rfl, by unfold fReckon; rw [if_pos (by omega)], eqn.refl⟩
  · refine r_run 2 (pc' := 10) (ls' := [some (yr 75), some (yi s), some (yi t)]) (st' := [yi t, yr 75]) (M' := M) (N' := N) rfl ?_
    refine r_virtual (mj := 116) (b := 75) (as := [yi t]) (rest := []) f_178_10 (by decide) rfl m_116 (by decide) (by decide) (by decide) rfl rfl (Nat.le_of_ble_eq_true rfl) (by omega) (m_isOfTexts (by assumption) (by have := R.t.2.1; omega)) ?_
    rintro _ _ _ ⟨vt, rfl, hvt, rfl, rfl⟩
    have e59 := R.t.2.1
    refine r_if_ne (pc := 13) f_178_13 (by omega) (fun h13 => ?_) (fun h13 => ?_)
    · have hs0 : 0 ≤ s ∧ s < 4 := hW_s (M := M) (by omega)
      refine r_run 2 (pc' := 22) (ls' := [some (yr 75), some (yi s), some (yi t)]) (st' := [yi s, yr 75]) (M' := M) (N' := N) rfl ?_
      refine r_virtual (mj := 177) (b := 75) (as := [yi s]) (rest := []) f_178_22 (by decide) rfl m_177 (by decide) (by decide) (by decide) rfl rfl (Nat.le_of_ble_eq_true rfl) (by omega) (m_names hs0 R) ?_
      rintro _ M2 _ ⟨rfl, ⟨n2, R2, e2⟩, rfl⟩
      refine r_run 3 (pc' := 28) (ls' := [some (yr 75), some (yi s), some (yi t)]) (st' := [yi 0, yi t, yr 75]) (M' := M2) (N' := N) rfl ?_
      refine r_virtual (mj := 158) (b := 75) (as := [yi t, yi 0]) (rest := []) f_178_28 (by decide) rfl m_158 (by decide) (by decide) (by decide) rfl rfl (Nat.le_of_ble_eq_true rfl) (by omega) (m_saysS hs0 R2 n2 (by rw [e2.e9]; omega) (by omega)) ?_
      rintro _ M3 _ ⟨v, rfl, ⟨hv, hvi, -, R3, e3⟩, rfl⟩
      rw [e2.eqx.eT, e2.eH] at hv
      refine r_i2l f_178_31 (by omega) ?_
      refine r_lret m_178 rfl f_178_32 ?_
      exact ⟨_, rfl, by unfold fReckon; rw [if_neg (by omega)]; exact hv, e2.trans e3⟩
    · refine r_run 1 (pc' := 19) (ls' := [some (yr 75), some (yi s), some (yi t)]) (st' := [yj (-4611686018427387904)]) (M' := M) (N' := N) rfl ?_
      refine r_lret m_178 rfl f_178_19 ?_
      exact ⟨_, rfl, by unfold fReckon; rw [if_pos (by omega)], eqn.refl⟩
theorem p_reckon {S : XS} {M N : YM} {s t : Int} (hqs : -2147483648 ≤ s ∧ s < 2147483648) (hqt : -2147483648 ≤ t ∧ t < 2147483648) (R : Rel M) : prl S 78 178 [yi s, yi t] M N := prl_q (fReckon s t) (rm_deep (by decide) (c_reckon hqs hqt R)) (fun M N R => rm_deep (by decide) (m_reckon hqs hqt R)) (fun M' _ e => fReckon_eq e) R
theorem c_laws_l {S : XS} {d : Nat} {s w n : Int} {M0 N : YM} (hd : 4 ≤ d) (hs : 0 ≤ s ∧ s < 4) (hn : n = M0 75 9) {j : Nat} : ∀ {t a : Int} {M : YM}, 0 ≤ t → t + j = n → (-2147483648 ≤ a ∧ a < 2147483648) → Rel M → eqn M0 M → ry S d 79 17 [some (yr 0), some (yi s), some (yi w), some (yi a), some (yi t)] [] M N (fun r M' N' => some (yi (bitsR (lwB M0 s) j t a)) = r ∧ eqn M0 M' ∧ N = N') := by
  induction j with
  | zero =>
    intro t a M h0 h1 ha R e
    have e5 := R.t.1
    have e59 := R.t.2.1
    have x9 := e.e9
    refine r_run 3 (pc' := 23) (ls' := [some (yr 0), some (yi s), some (yi w), some (yi a), some (yi t)]) (st' := [yi (M 0 5), yi t]) (M' := M) (N' := N) rfl ?_
    refine r_icmp_ge (pc := 23) f_79_23 (by omega) (by omega) (fun h23 => ?_) (fun h23 => ?_)
    · refine r_run 1 (pc' := 67) (ls' := [some (yr 0), some (yi s), some (yi w), some (yi a), some (yi t)]) (st' := [yi a]) (M' := M) (N' := N) rfl ?_
      refine r_iret m_79 rfl f_79_67 ?_
      exact ⟨rfl, e, rfl⟩
    · exfalso; omega
  | succ j ih =>
    intro t a M h0 h1 ha R e
    have e5 := R.t.1
    have e59 := R.t.2.1
    have x9 := e.e9
    refine r_run 3 (pc' := 23) (ls' := [some (yr 0), some (yi s), some (yi w), some (yi a), some (yi t)]) (st' := [yi (M 0 5), yi t]) (M' := M) (N' := N) rfl ?_
    refine r_icmp_ge (pc := 23) f_79_23 (by omega) (by omega) (fun h23 => ?_) (fun h23 => ?_)
    · exfalso; omega
    · refine r_run 3 (pc' := 32) (ls' := [some (yr 0), some (yi s), some (yi w), some (yi a), some (yi t)]) (st' := [yi t, yr 26]) (M' := M) (N' := N) rfl ?_
      refine r_aald (r := 49 + 3 * t) (kd := 105) (n := 6) f_79_32 (by decide) (by decide) (by decide) (by decide) (by omega) (rf_text (by omega)) ?_
      refine r_run 4 (pc' := 39) (ls' := [some (yr 0), some (yi s), some (yi w), some (yi a), some (yi t)]) (st' := [yi s, yr 32, yi 2, yr (49 + 3 * t)]) (M' := M) (N' := N) rfl ?_
      refine r_aald (r := 67 + 2 * s) (kd := 103) (n := 4) f_79_39 (by decide) (by decide) (by decide) (by decide) (by omega) (rf_sheet (by omega)) ?_
      refine r_getr (r := 68 + 2 * s) (n := 3) f_79_40 (by decide) (show xFT[17]? = some (3, 0) from rfl) (by decide) (by omega) (yk_sheet (by omega)) (rf_scell (by omega)) ?_
      refine r_run 2 (pc' := 47) (ls' := [some (yr 0), some (yi s), some (yi w), some (yi a), some (yi t)]) (st' := [yr 40, yr (68 + 2 * s), yi 2, yr (49 + 3 * t)]) (M' := M) (N' := N) rfl ?_
      refine r_virtual (mj := 46) (b := 49 + 3 * t) (as := [yi 2, yr (68 + 2 * s), yr 40]) (rest := []) f_79_47 (by decide) rfl m_46 (by decide) (by omega) (by rw [(yk_text (by omega))]; rfl) rfl rfl (Nat.le_of_ble_eq_true rfl) (by omega) (c_tellS2 hs R (t := t) (p := 2) (by omega) (by omega)) ?_
      rintro _ M3 _ ⟨v, rfl, ⟨hv, hvi, R3, e3⟩, rfl⟩
      rw [e.eqx.eT, e.eH] at hv
      have e' := e.trans e3
      have x9 := e3.e9
      refine r_if_eq (pc := 50) f_79_50 (by omega) (fun h50 => ?_) (fun h50 => ?_)
      · refine r_run 2 (pc' := 17) (ls' := [some (yr 0), some (yi s), some (yi w), some (yi a), some (yi (t + 1))]) (st' := []) (M' := M3) (N' := N) rfl ?_
        have f0 : lwB M0 s t ≠ 0 := by
          unfold lwB; rw [← hv, if_pos (by omega)]; decide
        rw [bitsR_no f0]
        exact ih (by omega) (by omega) ha R3 e'
      · refine r_run 8 (pc' := 17) (ls' := [some (yr 0), some (yi s), some (yi w), some (yi ((Int32.ofInt a ||| Int32.ofInt ((Int32.ofInt 1 <<< (Int32.ofInt t &&& 31)).toInt)).toInt)), some (yi (t + 1))]) (st' := []) (M' := M3) (N' := N) rfl ?_
        have f0 : lwB M0 s t = 0 := by
          unfold lwB; rw [← hv, if_neg (by omega)]
        rw [bitsR_yes f0]
        exact ih (by omega) (by omega) (bor_in _ _) R3 e'
theorem c_laws {S : XS} {M N : YM} {s : Int} (hqs : -2147483648 ≤ s ∧ s < 2147483648) (R : Rel M) : rm S 4 79 [yr 0, yi s] M N (fun r M' _ => ∃ v : Int, some (yi v) = r ∧ v = fLaws s M ∧ eqn M M') := by
  refine ⟨xe_79, m_79, Nat.le_of_ble_eq_true rfl, ?_⟩
  have e59 := R.t.2.1
  refine r_run 2 (pc' := 2) (ls' := [some (yr 0), some (yi s), none, none, none]) (st' := [yi s, yr 0]) (M' := M) (N' := N) rfl ?_
  refine r_virtual (mj := 108) (b := 0) (as := [yi s]) (rest := []) f_79_2 (by decide) rfl m_108 (by decide) (by decide) (by decide) rfl rfl (Nat.le_of_ble_eq_true rfl) (by omega) (c_refusal hqs R.h) ?_
  rintro _ _ _ ⟨w, rfl, hw, rfl, rfl⟩
  have hwi := @hW_in M s
  refine r_run 2 (pc' := 7) (ls' := [some (yr 0), some (yi s), some (yi w), none, none]) (st' := [yi w]) (M' := M) (N' := N) rfl ?_
  refine r_if_eq (pc := 7) f_79_7 (by omega) (fun h7 => ?_) (fun h7 => ?_)
  · refine r_run 4 (pc' := 17) (ls' := [some (yr 0), some (yi s), some (yi w), some (yi 0), some (yi 0)]) (st' := []) (M' := M) (N' := N) rfl ?_
    have hs0 : 0 ≤ s ∧ s < 4 := hW_s (M := M) (by omega)
    refine r_post (c_laws_l (n := M 75 9) (j := (M 75 9).toNat) (Nat.le_refl _) hs0 rfl (Int.le_refl 0) (by omega) (by omega) R eqn.refl) ?_
    rintro _ M' _ ⟨rfl, e, rfl⟩
    exact ⟨_, rfl, by unfold fLaws; rw [if_pos (by omega)], e⟩
  · refine r_run 1 (pc' := 11) (ls' := [some (yr 0), some (yi s), some (yi w), none, none]) (st' := [yi w]) (M' := M) (N' := N) rfl ?_
    refine r_iret m_79 rfl f_79_11 ?_
    exact ⟨_, rfl, by unfold fLaws; rw [if_neg (by omega)]; exact hw, eqn.refl⟩
theorem m_laws_l {S : XS} {d : Nat} {s w n : Int} {M0 N : YM} (hd : 5 ≤ d) (hs : 0 ≤ s ∧ s < 4) (hn : n = M0 75 9) {j : Nat} : ∀ {t a : Int} {M : YM}, 0 ≤ t → t + j = n → (-2147483648 ≤ a ∧ a < 2147483648) → Rel M → (∀ q, in6 q → M 89 q = shN M s q) → eqn M0 M → ry S d 179 22 [some (yr 75), some (yi s), some (yi w), some (yi a), some (yi t)] [] M N (fun r M' N' => some (yi (bitsR (lwB M0 s) j t a)) = r ∧ eqn M0 M' ∧ N = N') := by
  induction j with
  | zero =>
    intro t a M h0 h1 ha R n2 e
    have e59 := R.t.2.1
    have x9 := e.e9
    refine r_run 3 (pc' := 28) (ls' := [some (yr 75), some (yi s), some (yi w), some (yi a), some (yi t)]) (st' := [yi (M 75 9), yi t]) (M' := M) (N' := N) rfl ?_
    refine r_icmp_ge (pc := 28) f_179_28 (by omega) (by omega) (fun h28 => ?_) (fun h28 => ?_)
    · refine r_run 1 (pc' := 59) (ls' := [some (yr 75), some (yi s), some (yi w), some (yi a), some (yi t)]) (st' := [yi a]) (M' := M) (N' := N) rfl ?_
      refine r_iret m_179 rfl f_179_59 ?_
      exact ⟨rfl, e, rfl⟩
    · exfalso; omega
  | succ j ih =>
    intro t a M h0 h1 ha R n2 e
    have e59 := R.t.2.1
    have x9 := e.e9
    refine r_run 3 (pc' := 28) (ls' := [some (yr 75), some (yi s), some (yi w), some (yi a), some (yi t)]) (st' := [yi (M 75 9), yi t]) (M' := M) (N' := N) rfl ?_
    refine r_icmp_ge (pc := 28) f_179_28 (by omega) (by omega) (fun h28 => ?_) (fun h28 => ?_)
    · exfalso; omega
    · refine r_run 4 (pc' := 36) (ls' := [some (yr 75), some (yi s), some (yi w), some (yi a), some (yi t)]) (st' := [yi 2, yi t, yr 75, yi a]) (M' := M) (N' := N) rfl ?_
      refine r_virtual (mj := 158) (b := 75) (as := [yi t, yi 2]) (rest := [yi a]) f_179_36 (by decide) rfl m_158 (by decide) (by decide) (by decide) rfl rfl (Nat.le_of_ble_eq_true rfl) (by omega) (m_saysS hs R n2 (p := 2) (by omega) (by omega)) ?_
      rintro _ M3 _ ⟨v, rfl, ⟨hv, hvi, n3, R3, e3⟩, rfl⟩
      rw [e.eqx.eT, e.eH] at hv
      have e' := e.trans e3
      have x9 := e3.e9
      refine r_if_ne (pc := 39) f_179_39 (by omega) (fun h39 => ?_) (fun h39 => ?_)
      · refine r_run 7 (pc' := 22) (ls' := [some (yr 75), some (yi s), some (yi w), some (yi ((Int32.ofInt a ||| Int32.ofInt ((Int32.ofInt 1 <<< (Int32.ofInt t &&& 31)).toInt)).toInt)), some (yi (t + 1))]) (st' := []) (M' := M3) (N' := N) rfl ?_
        have f0 : lwB M0 s t = 0 := by
          unfold lwB; rw [← hv, if_neg (by omega)]
        rw [bitsR_yes f0]
        exact ih (by omega) (by omega) (bor_in _ _) R3 n3 e'
      · refine r_run 6 (pc' := 22) (ls' := [some (yr 75), some (yi s), some (yi w), some (yi ((Int32.ofInt a ||| Int32.ofInt 0).toInt)), some (yi (t + 1))]) (st' := []) (M' := M3) (N' := N) rfl ?_
        have f0 : lwB M0 s t ≠ 0 := by
          unfold lwB; rw [← hv, if_pos (by omega)]; decide
        rw [bitsR_no f0]
        refine r_loc 3 (b := a) rfl (bor_zero ha) ?_
        exact ih (by omega) (by omega) ha R3 n3 e'
theorem m_laws {S : XS} {M N : YM} {s : Int} (hqs : -2147483648 ≤ s ∧ s < 2147483648) (R : Rel M) : rm S 5 179 [yr 75, yi s] M N (fun r M' _ => ∃ v : Int, some (yi v) = r ∧ v = fLaws s M ∧ eqn M M') := by
  refine ⟨xe_179, m_179, Nat.le_of_ble_eq_true rfl, ?_⟩
  have e59 := R.t.2.1
  refine r_run 2 (pc' := 2) (ls' := [some (yr 75), some (yi s), none, none, none]) (st' := [yi s, yr 75]) (M' := M) (N' := N) rfl ?_
  refine r_virtual (mj := 173) (b := 75) (as := [yi s]) (rest := []) f_179_2 (by decide) rfl m_173 (by decide) (by decide) (by decide) rfl rfl (Nat.le_of_ble_eq_true rfl) (by omega) (m_sheetWrong hqs R.h) ?_
  rintro _ _ _ ⟨w, rfl, hw, rfl, rfl⟩
  have hwi := @hW_in M s
  refine r_run 2 (pc' := 7) (ls' := [some (yr 75), some (yi s), some (yi w), none, none]) (st' := [yi w]) (M' := M) (N' := N) rfl ?_
  refine r_if_eq (pc := 7) f_179_7 (by omega) (fun h7 => ?_) (fun h7 => ?_)
  · have hs0 : 0 ≤ s ∧ s < 4 := hW_s (M := M) (by omega)
    refine r_run 2 (pc' := 14) (ls' := [some (yr 75), some (yi s), some (yi w), none, none]) (st' := [yi s, yr 75]) (M' := M) (N' := N) rfl ?_
    refine r_virtual (mj := 177) (b := 75) (as := [yi s]) (rest := []) f_179_14 (by decide) rfl m_177 (by decide) (by decide) (by decide) rfl rfl (Nat.le_of_ble_eq_true rfl) (by omega) (m_names hs0 R) ?_
    rintro _ M2 _ ⟨rfl, ⟨n2, R2, e2⟩, rfl⟩
    refine r_run 4 (pc' := 22) (ls' := [some (yr 75), some (yi s), some (yi w), some (yi 0), some (yi 0)]) (st' := []) (M' := M2) (N' := N) rfl ?_
    refine r_post (m_laws_l (M0 := M) (n := M 75 9) (j := (M 75 9).toNat) (Nat.le_refl _) hs0 rfl (Int.le_refl 0) (by omega) (by omega) R2 n2 e2) ?_
    rintro _ M' _ ⟨rfl, e, rfl⟩
    exact ⟨_, rfl, by unfold fLaws; rw [if_pos (by omega)], e⟩
  · refine r_run 1 (pc' := 11) (ls' := [some (yr 75), some (yi s), some (yi w), none, none]) (st' := [yi w]) (M' := M) (N' := N) rfl ?_
    refine r_iret m_179 rfl f_179_11 ?_
    exact ⟨_, rfl, by unfold fLaws; rw [if_neg (by omega)]; exact hw, eqn.refl⟩
theorem p_laws {S : XS} {M N : YM} {s : Int} (hqs : -2147483648 ≤ s ∧ s < 2147483648) (R : Rel M) : pri S 79 179 [yi s] M N := pri_q (fLaws s) (rm_deep (by decide) (c_laws hqs R)) (fun M N R => rm_deep (by decide) (m_laws hqs R)) (fun M' _ e => fLaws_eq e) R
