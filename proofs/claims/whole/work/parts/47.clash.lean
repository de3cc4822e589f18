theorem c_clash {S : XS} {M N : YM} {b : Int} (hbb : 0 ≤ b ∧ b < 94) (hkb : yk b = (202, 5)) (hsb : sOk (M b 0) (M b 1) (M b 3) (M b 4)) {e : Int} (hbe : 0 ≤ e ∧ e < 94) (hke : yk e = (202, 5)) (hse : sOk (M e 0) (M e 1) (M e 3) (M e 4)) {y : Int} (hy : 0 ≤ y ∧ y ≤ 99) (hof : (0 ≤ M b 2 ∧ M b 2 ≤ 5) ∧ 0 ≤ M e 2 ∧ M e 2 ≤ 5) : rm S 2 27 [yr b, yr e, yi y] M N (fun r M' N' => ∃ v : Int, some (yi v) = r ∧ ((v = 1 ∧ M b 2 = M e 2 ∧ (sUpTo (M b 0) (M b 1) (M b 3) (M b 4) y < sFrom (M e 0) (M e 1) (M e 3) (M e 4) y ∨ sUpTo (M e 0) (M e 1) (M e 3) (M e 4) y < sFrom (M b 0) (M b 1) (M b 3) (M b 4) y)) ∨ (v = 0 ∧ ¬ (M b 2 = M e 2 ∧ (sUpTo (M b 0) (M b 1) (M b 3) (M b 4) y < sFrom (M e 0) (M e 1) (M e 3) (M e 4) y ∨ sUpTo (M e 0) (M e 1) (M e 3) (M e 4) y < sFrom (M b 0) (M b 1) (M b 3) (M b 4) y)))) ∧ M = M' ∧ N = N') := by
  refine ⟨xe_27, m_27, Nat.le_of_ble_eq_true rfl, ?_⟩
  have r1 := sFrom_in hsb hy
  have r2 := sFrom_in hse hy
  have r3 := sUpTo_in hsb hy
  have r4 := sUpTo_in hse hy
  refine r_run 1 (pc' := 1) (ls' := [some (yr b), some (yr e), some (yi y)]) (st' := [yr b]) (M' := M) (N' := N) rfl ?_
  refine r_getf (n := 5) 2 rfl f_27_1 (by decide) (show xFT[14]? = some (2, 2) from rfl) (by decide) hbb hkb ?_
  refine r_run 1 (pc' := 5) (ls' := [some (yr b), some (yr e), some (yi y)]) (st' := [yr e, yi (M b 2)]) (M' := M) (N' := N) rfl ?_
  refine r_getf (n := 5) 2 rfl f_27_5 (by decide) (show xFT[14]? = some (2, 2) from rfl) (by decide) hbe hke ?_
  refine r_icmp_ne (pc := 8) f_27_8 (by omega) (by omega) (fun h8 => ?_) (fun h8 => ?_)
  · refine r_run 1 (pc' := 42) (ls' := [some (yr b), some (yr e), some (yi y)]) (st' := [yi 0]) (M' := M) (N' := N) rfl ?_
    refine r_zret m_27 rfl f_27_42 (by omega) ?_
    exact ⟨_, rfl, by omega, rfl, rfl⟩
  · refine r_run 2 (pc' := 13) (ls' := [some (yr b), some (yr e), some (yi y)]) (st' := [yi y, yr b]) (M' := M) (N' := N) rfl ?_
    refine r_virtual (mj := 24) (b := b) (as := [yi y]) (rest := []) f_27_13 (by decide) rfl m_24 (by decide) hbb (by rw [hkb]; rfl) rfl rfl (Nat.le_of_ble_eq_true rfl) (by omega) (c_upTo hbb hkb hsb hy) ?_
    rintro _ _ _ ⟨v13, rfl, hv13, rfl, rfl⟩
    refine r_run 2 (pc' := 18) (ls' := [some (yr b), some (yr e), some (yi y)]) (st' := [yi y, yr e, yi v13]) (M' := M) (N' := N) rfl ?_
    refine r_virtual (mj := 23) (b := e) (as := [yi y]) (rest := [yi v13]) f_27_18 (by decide) rfl m_23 (by decide) hbe (by rw [hke]; rfl) rfl rfl (Nat.le_of_ble_eq_true rfl) (by omega) (c_from hbe hke hse hy) ?_
    rintro _ _ _ ⟨v18, rfl, hv18, rfl, rfl⟩
    refine r_icmp_lt (pc := 21) f_27_21 (by omega) (by omega) (fun h21 => ?_) (fun h21 => ?_)
    · refine r_run 2 (pc' := 42) (ls' := [some (yr b), some (yr e), some (yi y)]) (st' := [yi 1]) (M' := M) (N' := N) rfl ?_
      refine r_zret m_27 rfl f_27_42 (by omega) ?_
      exact ⟨_, rfl, by omega, rfl, rfl⟩
    · refine r_run 2 (pc' := 26) (ls' := [some (yr b), some (yr e), some (yi y)]) (st' := [yi y, yr e]) (M' := M) (N' := N) rfl ?_
      refine r_virtual (mj := 24) (b := e) (as := [yi y]) (rest := []) f_27_26 (by decide) rfl m_24 (by decide) hbe (by rw [hke]; rfl) rfl rfl (Nat.le_of_ble_eq_true rfl) (by omega) (c_upTo hbe hke hse hy) ?_
      rintro _ _ _ ⟨v26, rfl, hv26, rfl, rfl⟩
      refine r_run 2 (pc' := 31) (ls' := [some (yr b), some (yr e), some (yi y)]) (st' := [yi y, yr b, yi v26]) (M' := M) (N' := N) rfl ?_
      refine r_virtual (mj := 23) (b := b) (as := [yi y]) (rest := [yi v26]) f_27_31 (by decide) rfl m_23 (by decide) hbb (by rw [hkb]; rfl) rfl rfl (Nat.le_of_ble_eq_true rfl) (by omega) (c_from hbb hkb hsb hy) ?_
      rintro _ _ _ ⟨v31, rfl, hv31, rfl, rfl⟩
      refine r_icmp_ge (pc := 34) f_27_34 (by omega) (by omega) (fun h34 => ?_) (fun h34 => ?_)
      · refine r_run 1 (pc' := 42) (ls' := [some (yr b), some (yr e), some (yi y)]) (st' := [yi 0]) (M' := M) (N' := N) rfl ?_
        refine r_zret m_27 rfl f_27_42 (by omega) ?_
        exact ⟨_, rfl, by omega, rfl, rfl⟩
      · refine r_run 2 (pc' := 42) (ls' := [some (yr b), some (yr e), some (yi y)]) (st' := [yi 1]) (M' := M) (N' := N) rfl ?_
        refine r_zret m_27 rfl f_27_42 (by omega) ?_
        exact ⟨_, rfl, by omega, rfl, rfl⟩
/-- whether two sayings clash -/
def clv (M : YM) (a b : Int) : Int := if M 76 (5 * a + 1) = M 76 (5 * b + 1) ∧ (sUpTo (M 76 (5 * a)) (M 76 (5 * a + 4)) (M 76 (5 * a + 2)) (M 76 (5 * a + 3)) (M 75 4) < sFrom (M 76 (5 * b)) (M 76 (5 * b + 4)) (M 76 (5 * b + 2)) (M 76 (5 * b + 3)) (M 75 4) ∨ sUpTo (M 76 (5 * b)) (M 76 (5 * b + 4)) (M 76 (5 * b + 2)) (M 76 (5 * b + 3)) (M 75 4) < sFrom (M 76 (5 * a)) (M 76 (5 * a + 4)) (M 76 (5 * a + 2)) (M 76 (5 * a + 3)) (M 75 4)) then 1 else 0
theorem m_clash {S : XS} {M N : YM} {a b : Int} (hI : InvS M) (ha : 0 ≤ a ∧ a < M 75 0) (hb : 0 ≤ b ∧ b < M 75 0) : rm S 2 154 [yr 75, yi a, yi b] M N (fun r M' N' => ∃ v : Int, some (yi v) = r ∧ (v = clv M a b) ∧ M = M' ∧ N = N') := by
  refine ⟨xe_154, m_154, Nat.le_of_ble_eq_true rfl, ?_⟩
  obtain ⟨-, hsa, hoa⟩ := hI.2.2.2.2 a (by omega) (by omega)
  obtain ⟨-, hsb, hob⟩ := hI.2.2.2.2 b (by omega) (by omega)
  have g := hI.2.1
  have hy := hI.2.2.2.1
  have raF := sFrom_in hsa hy
  have raU := sUpTo_in hsa hy
  have rbF := sFrom_in hsb hy
  have rbU := sUpTo_in hsb hy
  refine r_run 7 (pc' := 9) (ls' := [some (yr 75), some (yi a), some (yi b)]) (st' := [yi ((5 * a) + 1), yr 76]) (M' := M) (N' := N) rfl ?_
  refine r_iald (n := 50) f_154_9 (by decide) (by decide) (by decide) (by omega) ?_
  refine r_run 7 (pc' := 19) (ls' := [some (yr 75), some (yi a), some (yi b)]) (st' := [yi ((5 * b) + 1), yr 76, yi (M 76 ((5 * a) + 1))]) (M' := M) (N' := N) rfl ?_
  refine r_iald (n := 50) f_154_19 (by decide) (by decide) (by decide) (by omega) ?_
  refine r_icmp_ne (pc := 20) f_154_20 (by omega) (by omega) (fun h20 => ?_) (fun h20 => ?_)
  · refine r_run 1 (pc' := 54) (ls' := [some (yr 75), some (yi a), some (yi b)]) (st' := [yi 0]) (M' := M) (N' := N) rfl ?_
    refine r_zret m_154 rfl f_154_54 (by omega) ?_
    exact ⟨_, rfl, by unfold clv; (repeat' split) <;> omega, rfl, rfl⟩
  · refine r_run 2 (pc' := 25) (ls' := [some (yr 75), some (yi a), some (yi b)]) (st' := [yi a, yr 75]) (M' := M) (N' := N) rfl ?_
    refine r_virtual (mj := 140) (b := 75) (as := [yi a]) (rest := []) f_154_25 (by decide) rfl m_140 (by decide) (by decide) (by decide) rfl rfl (Nat.le_of_ble_eq_true rfl) (by omega) (m_fromOf (by omega) hsa hy) ?_
    rintro _ _ _ ⟨v25, rfl, hv25, rfl, rfl⟩
    refine r_run 2 (pc' := 30) (ls' := [some (yr 75), some (yi a), some (yi b)]) (st' := [yi b, yr 75, yi v25]) (M' := M) (N' := N) rfl ?_
    refine r_virtual (mj := 141) (b := 75) (as := [yi b]) (rest := [yi v25]) f_154_30 (by decide) rfl m_141 (by decide) (by decide) (by decide) rfl rfl (Nat.le_of_ble_eq_true rfl) (by omega) (m_upTo (by omega) hsb hy) ?_
    rintro _ _ _ ⟨v30, rfl, hv30, rfl, rfl⟩
    refine r_icmp_gt (pc := 33) f_154_33 (by omega) (by omega) (fun h33 => ?_) (fun h33 => ?_)
    · refine r_run 2 (pc' := 54) (ls' := [some (yr 75), some (yi a), some (yi b)]) (st' := [yi 1]) (M' := M) (N' := N) rfl ?_
      refine r_zret m_154 rfl f_154_54 (by omega) ?_
      exact ⟨_, rfl, by unfold clv; (repeat' split) <;> omega, rfl, rfl⟩
    · refine r_run 2 (pc' := 38) (ls' := [some (yr 75), some (yi a), some (yi b)]) (st' := [yi b, yr 75]) (M' := M) (N' := N) rfl ?_
      refine r_virtual (mj := 140) (b := 75) (as := [yi b]) (rest := []) f_154_38 (by decide) rfl m_140 (by decide) (by decide) (by decide) rfl rfl (Nat.le_of_ble_eq_true rfl) (by omega) (m_fromOf (by omega) hsb hy) ?_
      rintro _ _ _ ⟨v38, rfl, hv38, rfl, rfl⟩
      refine r_run 2 (pc' := 43) (ls' := [some (yr 75), some (yi a), some (yi b)]) (st' := [yi a, yr 75, yi v38]) (M' := M) (N' := N) rfl ?_
      refine r_virtual (mj := 141) (b := 75) (as := [yi a]) (rest := [yi v38]) f_154_43 (by decide) rfl m_141 (by decide) (by decide) (by decide) rfl rfl (Nat.le_of_ble_eq_true rfl) (by omega) (m_upTo (by omega) hsa hy) ?_
      rintro _ _ _ ⟨v43, rfl, hv43, rfl, rfl⟩
      refine r_icmp_le (pc := 46) f_154_46 (by omega) (by omega) (fun h46 => ?_) (fun h46 => ?_)
      · refine r_run 1 (pc' := 54) (ls' := [some (yr 75), some (yi a), some (yi b)]) (st' := [yi 0]) (M' := M) (N' := N) rfl ?_
        refine r_zret m_154 rfl f_154_54 (by omega) ?_
        exact ⟨_, rfl, by unfold clv; (repeat' split) <;> omega, rfl, rfl⟩
      · refine r_run 2 (pc' := 54) (ls' := [some (yr 75), some (yi a), some (yi b)]) (st' := [yi 1]) (M' := M) (N' := N) rfl ?_
        refine r_zret m_154 rfl f_154_54 (by omega) ?_
        exact ⟨_, rfl, by unfold clv; (repeat' split) <;> omega, rfl, rfl⟩
/-- pairs that clash: turns left, the other one; how many, the first -/
def clIn (f : Int → Int) (a : Int) : Nat → Int → Int → Int → Int × Int
  | 0, _, m, g => (m, g)
  | j + 1, b, m, g => if f b = 1 then clIn f a j (b + 1) (m + 1) (if m = 0 then 10 * a + b else g) else clIn f a j (b + 1) m g
def clOut (f : Int → Int → Int) (n : Int) : Nat → Int → Int → Int → Int × Int
  | 0, _, m, g => (m, g)
  | j + 1, a, m, g => clOut f n j (a + 1) (clIn (f a) a (n - (a + 1)).toNat (a + 1) m g).1 (clIn (f a) a (n - (a + 1)).toNat (a + 1) m g).2
theorem clIn_yes {f : Int → Int} {a b m g : Int} {j : Nat} (h : f b = 1) : clIn f a (j + 1) b m g = clIn f a j (b + 1) (m + 1) (if m = 0 then 10 * a + b else g) := by
  rw [clIn, if_pos h]
theorem clIn_no {f : Int → Int} {a b m g : Int} {j : Nat} (h : ¬ f b = 1) : clIn f a (j + 1) b m g = clIn f a j (b + 1) m g := by
  rw [clIn, if_neg h]
theorem clIn_le {f : Int → Int} {a : Int} {j : Nat} : ∀ {b m g : Int}, 0 ≤ m → 0 ≤ (clIn f a j b m g).1 ∧ (clIn f a j b m g).1 ≤ m + j := by
  induction j with
  | zero => intro b m g h; exact ⟨h, by show m ≤ m + _; omega⟩
  | succ j ih =>
    intro b m g h
    by_cases hf : f b = 1
    · rw [clIn_yes hf]
      have := @ih (b + 1) (m + 1) (if m = 0 then 10 * a + b else g) (by omega)
      omega
    · rw [clIn_no hf]
      have := @ih (b + 1) m g h
      omega
theorem c_clin {S : XS} {d : Nat} {w a n : Int} {M N : YM} {Q : Option YV → YM → YM → Prop} (hd : 4 ≤ d) (hI : InvS M) (hn : n = M 75 0) (ha : 0 ≤ a ∧ a < n) {j : Nat} : ∀ {b m g : Int}, a < b → b + j = n → (0 ≤ m ∧ m ≤ 10 * a + b) → ry S d 65 108 [some (yr 0), some (yi w), some (yi (clIn (clv M a) a j b m g).1), some (yi (clIn (clv M a) a j b m g).2), some (yi a), some (yi n)] [] M N Q → ry S d 65 37 [some (yr 0), some (yi w), some (yi m), some (yi g), some (yi a), some (yi b)] [] M N Q := by
  induction j with
  | zero =>
    intro b m g h0 h1 hm kk
    have g0 := hI.1
    have g1 := hI.2.1
    refine r_run 4 (pc' := 46) (ls' := [some (yr 0), some (yi w), some (yi m), some (yi g), some (yi a), some (yi b)]) (st' := [yi (M 1 1), yi b]) (M' := M) (N' := N) rfl ?_
    refine r_icmp_ge (pc := 46) f_65_46 (by omega) (by omega) (fun h46 => ?_) (fun h46 => ?_)
    · have hb : b = n := by omega
      rw [hb]
      exact kk
    · exfalso; omega
  | succ j ih =>
    intro b m g h0 h1 hm kk
    have g0 := hI.1
    have g1 := hI.2.1
    refine r_run 4 (pc' := 46) (ls' := [some (yr 0), some (yi w), some (yi m), some (yi g), some (yi a), some (yi b)]) (st' := [yi (M 1 1), yi b]) (M' := M) (N' := N) rfl ?_
    refine r_icmp_ge (pc := 46) f_65_46 (by omega) (by omega) (fun h46 => ?_) (fun h46 => ?_)
    · exfalso; omega
    · refine r_run 4 (pc' := 58) (ls' := [some (yr 0), some (yi w), some (yi m), some (yi g), some (yi a), some (yi b)]) (st' := [yi a, yr 2]) (M' := M) (N' := N) rfl ?_
      refine r_aald (r := 3 + a) (kd := 102) (n := 10) f_65_58 (by decide) (by decide) (by decide) (by decide) (by omega) (rf_say (by omega)) ?_
      refine r_run 4 (pc' := 68) (ls' := [some (yr 0), some (yi w), some (yi m), some (yi g), some (yi a), some (yi b)]) (st' := [yi b, yr 2, yr (3 + a)]) (M' := M) (N' := N) rfl ?_
      refine r_aald (r := 3 + b) (kd := 102) (n := 10) f_65_68 (by decide) (by decide) (by decide) (by decide) (by omega) (rf_say (by omega)) ?_
      refine r_run 3 (pc' := 76) (ls' := [some (yr 0), some (yi w), some (yi m), some (yi g), some (yi a), some (yi b)]) (st' := [yi (M 1 3), yr (3 + b), yr (3 + a)]) (M' := M) (N' := N) rfl ?_
      refine r_virtual (mj := 27) (b := 3 + a) (as := [yr (3 + b), yi (M 1 3)]) (rest := []) f_65_76 (by decide) rfl m_27 (by decide) (by omega) (by rw [(yk_say (by omega))]; rfl) rfl rfl (Nat.le_of_ble_eq_true rfl) (by omega) (c_clash (by omega) (yk_say (by omega)) (hI.ok (by omega) (by omega)) (by omega) (yk_say (by omega)) (hI.ok (by omega) (by omega)) (by rw [hI.2.2.1]; exact hI.2.2.2.1) (by obtain ⟨⟨e0, e1, e2, e3, e4⟩, -, e5⟩ := hI.2.2.2.2 a (by omega) (by omega); obtain ⟨⟨f0, f1, f2, f3, f4⟩, -, f5⟩ := hI.2.2.2.2 b (by omega) (by omega); rw [e2, f2]; exact ⟨e5, f5⟩)) ?_
      rintro _ _ _ ⟨v76, rfl, hv76, rfl, rfl⟩
      obtain ⟨⟨e0, e1, e2, e3, e4⟩, -, -⟩ := hI.2.2.2.2 a (by omega) (by omega)
      obtain ⟨⟨f0, f1, f2, f3, f4⟩, -, -⟩ := hI.2.2.2.2 b (by omega) (by omega)
      have hc : v76 = clv M a b := by
        rw [e0, e1, e2, e3, e4, f0, f1, f2, f3, f4, hI.2.2.1] at hv76
        unfold clv
        split <;> omega
      refine r_if_eq (pc := 79) f_65_79 (by omega) (fun h79 => ?_) (fun h79 => ?_)
      · refine r_run 2 (pc' := 37) (ls' := [some (yr 0), some (yi w), some (yi m), some (yi g), some (yi a), some (yi (b + 1))]) (st' := []) (M' := M) (N' := N) rfl ?_
        rw [clIn_no (by omega)] at kk
        exact ih (by omega) (by omega) (by omega) kk
      · refine r_run 1 (pc' := 83) (ls' := [some (yr 0), some (yi w), some (yi m), some (yi g), some (yi a), some (yi b)]) (st' := [yi m]) (M' := M) (N' := N) rfl ?_
        refine r_if_ne (pc := 83) f_65_83 (by omega) (fun h83 => ?_) (fun h83 => ?_)
        · refine r_run 5 (pc' := 37) (ls' := [some (yr 0), some (yi w), some (yi (m + 1)), some (yi g), some (yi a), some (yi (b + 1))]) (st' := []) (M' := M) (N' := N) rfl ?_
          rw [clIn_yes (by omega), if_neg (by omega)] at kk
          exact ih (by omega) (by omega) (by omega) kk
        · refine r_run 10 (pc' := 37) (ls' := [some (yr 0), some (yi w), some (yi (m + 1)), some (yi ((10 * a) + b)), some (yi a), some (yi (b + 1))]) (st' := []) (M' := M) (N' := N) rfl ?_
          rw [clIn_yes (by omega), if_pos (by omega)] at kk
          exact ih (by omega) (by omega) (by omega) kk
theorem c_clout {S : XS} {d : Nat} {w n : Int} {M N : YM} (hd : 4 ≤ d) (hI : InvS M) (hn : n = M 75 0) (hw : 0 ≤ w ∧ w ≤ 1) {j : Nat} : ∀ {a m g : Int} {l5 : Option YV}, 0 ≤ a → a + j = n → (0 ≤ m ∧ m ≤ 10 * a) → ry S d 65 19 [some (yr 0), some (yi w), some (yi m), some (yi g), some (yi a), l5] [] M N (fun r M' N' => some (yi (if w = 0 then (clOut (clv M) n j a m g).1 else (clOut (clv M) n j a m g).2)) = r ∧ M = M' ∧ N = N') := by
  induction j with
  | zero =>
    intro a m g l5 h0 h1 hm
    have g0 := hI.1
    have g1 := hI.2.1
    refine r_run 4 (pc' := 28) (ls' := [some (yr 0), some (yi w), some (yi m), some (yi g), some (yi a), l5]) (st' := [yi (M 1 1), yi a]) (M' := M) (N' := N) rfl ?_
    refine r_icmp_ge (pc := 28) f_65_28 (by omega) (by omega) (fun h28 => ?_) (fun h28 => ?_)
    · refine r_run 1 (pc' := 115) (ls' := [some (yr 0), some (yi w), some (yi m), some (yi g), some (yi a), l5]) (st' := [yi w]) (M' := M) (N' := N) rfl ?_
      refine r_if_ne (pc := 115) f_65_115 (by omega) (fun h115 => ?_) (fun h115 => ?_)
      · refine r_run 1 (pc' := 123) (ls' := [some (yr 0), some (yi w), some (yi m), some (yi g), some (yi a), l5]) (st' := [yi g]) (M' := M) (N' := N) rfl ?_
        refine r_iret m_65 rfl f_65_123 ?_
        exact ⟨by rw [if_neg (by omega)]; rfl, rfl, rfl⟩
      · refine r_run 2 (pc' := 123) (ls' := [some (yr 0), some (yi w), some (yi m), some (yi g), some (yi a), l5]) (st' := [yi m]) (M' := M) (N' := N) rfl ?_
        refine r_iret m_65 rfl f_65_123 ?_
        exact ⟨by rw [if_pos (by omega)]; rfl, rfl, rfl⟩
    · refine r_run 4 (pc' := 37) (ls' := [some (yr 0), some (yi w), some (yi m), some (yi g), some (yi a), some (yi (a + 1))]) (st' := []) (M' := M) (N' := N) rfl ?_
      exfalso; omega
  | succ j ih =>
    intro a m g l5 h0 h1 hm
    have g0 := hI.1
    have g1 := hI.2.1
    refine r_run 4 (pc' := 28) (ls' := [some (yr 0), some (yi w), some (yi m), some (yi g), some (yi a), l5]) (st' := [yi (M 1 1), yi a]) (M' := M) (N' := N) rfl ?_
    refine r_icmp_ge (pc := 28) f_65_28 (by omega) (by omega) (fun h28 => ?_) (fun h28 => ?_)
    · exfalso; omega
    · refine r_run 4 (pc' := 37) (ls' := [some (yr 0), some (yi w), some (yi m), some (yi g), some (yi a), some (yi (a + 1))]) (st' := []) (M' := M) (N' := N) rfl ?_
      have q := @clIn_le (clv M a) a (n - (a + 1)).toNat (a + 1) m g hm.1
      refine c_clin (n := n) (j := (n - (a + 1)).toNat) hd hI hn (by omega) (by omega) (by omega) (by omega) ?_
      refine r_run 2 (pc' := 19) (ls' := [some (yr 0), some (yi w), some (yi (clIn (clv M a) a (n - (a + 1)).toNat (a + 1) m g).1), some (yi (clIn (clv M a) a (n - (a + 1)).toNat (a + 1) m g).2), some (yi (a + 1)), some (yi n)]) (st' := []) (M' := M) (N' := N) rfl ?_
      exact ih (l5 := some (yi n)) (by omega) (by omega) (by omega)
theorem c_clashes {S : XS} {M N : YM} {w : Int} (hw : -2147483648 ≤ w ∧ w < 2147483648) (hI : InvS M) : rm S 4 65 [yr 0, yi w] M N (fun r M' N' => ∃ v : Int, some (yi v) = r ∧ (v = (if w < 0 ∨ 1 < w then -2 else if w = 0 then (clOut (clv M) (M 75 0) (M 75 0).toNat 0 0 (-1)).1 else (clOut (clv M) (M 75 0) (M 75 0).toNat 0 0 (-1)).2)) ∧ M = M' ∧ N = N') := by
  refine ⟨xe_65, m_65, Nat.le_of_ble_eq_true rfl, ?_⟩
  have g1 := hI.2.1
  refine r_run 3 (pc' := 3) (ls' := [some (yr 0), some (yi w), none, none, none, none]) (st' := [yi 1, yi 0, yi w]) (M' := M) (N' := N) rfl ?_
  refine r_static (mj := 90) (as := [yi w, yi 0, yi 1]) (rest := []) f_65_3 (by decide) rfl m_90 rfl rfl rfl (Nat.le_of_ble_eq_true rfl) (by omega) (c_within (by omega) (by omega) (by omega)) ?_
  rintro _ _ _ ⟨v3, rfl, hv3, rfl, rfl⟩
  refine r_if_ne (pc := 6) f_65_6 (by omega) (fun h6 => ?_) (fun h6 => ?_)
  · refine r_run 6 (pc' := 19) (ls' := [some (yr 0), some (yi w), some (yi 0), some (yi (-1)), some (yi 0), none]) (st' := []) (M' := M) (N' := N) rfl ?_
    refine r_post (c_clout (n := M 75 0) (j := (M 75 0).toNat) (l5 := none) (Nat.le_refl _) hI rfl (by omega) (by omega) (by omega) (by omega)) ?_
    rintro _ _ _ ⟨rfl, rfl, rfl⟩
    exact ⟨_, rfl, by rw [if_neg (show ¬ (w < 0 ∨ 1 < w) by omega)], rfl, rfl⟩
  · refine r_run 1 (pc' := 11) (ls' := [some (yr 0), some (yi w), none, none, none, none]) (st' := [yi (-2)]) (M' := M) (N' := N) rfl ?_
    refine r_iret m_65 rfl f_65_11 ?_
    exact ⟨_, rfl, by rw [if_pos (by omega)], rfl, rfl⟩
theorem m_clin {S : XS} {d : Nat} {w a n : Int} {M N : YM} {Q : Option YV → YM → YM → Prop} (hd : 4 ≤ d) (hI : InvS M) (hn : n = M 75 0) (ha : 0 ≤ a ∧ a < n) {j : Nat} : ∀ {b m g : Int}, a < b → b + j = n → (0 ≤ m ∧ m ≤ 10 * a + b) → ry S d 155 80 [some (yr 75), some (yi w), some (yi (clIn (clv M a) a j b m g).1), some (yi (clIn (clv M a) a j b m g).2), some (yi a), some (yi n)] [] M N Q → ry S d 155 34 [some (yr 75), some (yi w), some (yi m), some (yi g), some (yi a), some (yi b)] [] M N Q := by
  induction j with
  | zero =>
    intro b m g h0 h1 hm kk
    have g0 := hI.1
    have g1 := hI.2.1
    refine r_run 3 (pc' := 40) (ls' := [some (yr 75), some (yi w), some (yi m), some (yi g), some (yi a), some (yi b)]) (st' := [yi (M 75 0), yi b]) (M' := M) (N' := N) rfl ?_
    refine r_icmp_ge (pc := 40) f_155_40 (by omega) (by omega) (fun h40 => ?_) (fun h40 => ?_)
    · have hb : b = n := by omega
      rw [hb]
      exact kk
    · exfalso; omega
  | succ j ih =>
    intro b m g h0 h1 hm kk
    have g0 := hI.1
    have g1 := hI.2.1
    refine r_run 3 (pc' := 40) (ls' := [some (yr 75), some (yi w), some (yi m), some (yi g), some (yi a), some (yi b)]) (st' := [yi (M 75 0), yi b]) (M' := M) (N' := N) rfl ?_
    refine r_icmp_ge (pc := 40) f_155_40 (by omega) (by omega) (fun h40 => ?_) (fun h40 => ?_)
    · exfalso; omega
    · refine r_run 3 (pc' := 48) (ls' := [some (yr 75), some (yi w), some (yi m), some (yi g), some (yi a), some (yi b)]) (st' := [yi b, yi a, yr 75]) (M' := M) (N' := N) rfl ?_
      refine r_virtual (mj := 154) (b := 75) (as := [yi a, yi b]) (rest := []) f_155_48 (by decide) rfl m_154 (by decide) (by decide) (by decide) rfl rfl (Nat.le_of_ble_eq_true rfl) (by omega) (m_clash hI (by omega) (by omega)) ?_
      rintro _ _ _ ⟨v48, rfl, hc, rfl, rfl⟩
      have hv48 : v48 = 1 ∨ v48 = 0 := by rw [hc]; unfold clv; split; exact Or.inl rfl; exact Or.inr rfl
      refine r_if_eq (pc := 51) f_155_51 (by omega) (fun h51 => ?_) (fun h51 => ?_)
      · refine r_run 2 (pc' := 34) (ls' := [some (yr 75), some (yi w), some (yi m), some (yi g), some (yi a), some (yi (b + 1))]) (st' := []) (M' := M) (N' := N) rfl ?_
        rw [clIn_no (by omega)] at kk
        exact ih (by omega) (by omega) (by omega) kk
      · refine r_run 1 (pc' := 55) (ls' := [some (yr 75), some (yi w), some (yi m), some (yi g), some (yi a), some (yi b)]) (st' := [yi m]) (M' := M) (N' := N) rfl ?_
        refine r_if_ne (pc := 55) f_155_55 (by omega) (fun h55 => ?_) (fun h55 => ?_)
        · refine r_run 5 (pc' := 34) (ls' := [some (yr 75), some (yi w), some (yi (m + 1)), some (yi g), some (yi a), some (yi (b + 1))]) (st' := []) (M' := M) (N' := N) rfl ?_
          rw [clIn_yes (by omega), if_neg (by omega)] at kk
          exact ih (by omega) (by omega) (by omega) kk
        · refine r_run 10 (pc' := 34) (ls' := [some (yr 75), some (yi w), some (yi (m + 1)), some (yi ((10 * a) + b)), some (yi a), some (yi (b + 1))]) (st' := []) (M' := M) (N' := N) rfl ?_
          rw [clIn_yes (by omega), if_pos (by omega)] at kk
          exact ih (by omega) (by omega) (by omega) kk
theorem m_clout {S : XS} {d : Nat} {w n : Int} {M N : YM} (hd : 4 ≤ d) (hI : InvS M) (hn : n = M 75 0) (hw : 0 ≤ w ∧ w ≤ 1) {j : Nat} : ∀ {a m g : Int} {l5 : Option YV}, 0 ≤ a → a + j = n → (0 ≤ m ∧ m ≤ 10 * a) → ry S d 155 19 [some (yr 75), some (yi w), some (yi m), some (yi g), some (yi a), l5] [] M N (fun r M' N' => some (yi (if w = 0 then (clOut (clv M) n j a m g).1 else (clOut (clv M) n j a m g).2)) = r ∧ M = M' ∧ N = N') := by
  induction j with
  | zero =>
    intro a m g l5 h0 h1 hm
    have g0 := hI.1
    have g1 := hI.2.1
    refine r_run 3 (pc' := 25) (ls' := [some (yr 75), some (yi w), some (yi m), some (yi g), some (yi a), l5]) (st' := [yi (M 75 0), yi a]) (M' := M) (N' := N) rfl ?_
    refine r_icmp_ge (pc := 25) f_155_25 (by omega) (by omega) (fun h25 => ?_) (fun h25 => ?_)
    · refine r_run 1 (pc' := 87) (ls' := [some (yr 75), some (yi w), some (yi m), some (yi g), some (yi a), l5]) (st' := [yi w]) (M' := M) (N' := N) rfl ?_
      refine r_if_ne (pc := 87) f_155_87 (by omega) (fun h87 => ?_) (fun h87 => ?_)
      · refine r_run 1 (pc' := 95) (ls' := [some (yr 75), some (yi w), some (yi m), some (yi g), some (yi a), l5]) (st' := [yi g]) (M' := M) (N' := N) rfl ?_
        refine r_iret m_155 rfl f_155_95 ?_
        exact ⟨by rw [if_neg (by omega)]; rfl, rfl, rfl⟩
      · refine r_run 2 (pc' := 95) (ls' := [some (yr 75), some (yi w), some (yi m), some (yi g), some (yi a), l5]) (st' := [yi m]) (M' := M) (N' := N) rfl ?_
        refine r_iret m_155 rfl f_155_95 ?_
        exact ⟨by rw [if_pos (by omega)]; rfl, rfl, rfl⟩
    · refine r_run 4 (pc' := 34) (ls' := [some (yr 75), some (yi w), some (yi m), some (yi g), some (yi a), some (yi (a + 1))]) (st' := []) (M' := M) (N' := N) rfl ?_
      exfalso; omega
  | succ j ih =>
    intro a m g l5 h0 h1 hm
    have g0 := hI.1
    have g1 := hI.2.1
    refine r_run 3 (pc' := 25) (ls' := [some (yr 75), some (yi w), some (yi m), some (yi g), some (yi a), l5]) (st' := [yi (M 75 0), yi a]) (M' := M) (N' := N) rfl ?_
    refine r_icmp_ge (pc := 25) f_155_25 (by omega) (by omega) (fun h25 => ?_) (fun h25 => ?_)
    · exfalso; omega
    · refine r_run 4 (pc' := 34) (ls' := [some (yr 75), some (yi w), some (yi m), some (yi g), some (yi a), some (yi (a + 1))]) (st' := []) (M' := M) (N' := N) rfl ?_
      have q := @clIn_le (clv M a) a (n - (a + 1)).toNat (a + 1) m g hm.1
      refine m_clin (n := n) (j := (n - (a + 1)).toNat) hd hI hn (by omega) (by omega) (by omega) (by omega) ?_
      refine r_run 2 (pc' := 19) (ls' := [some (yr 75), some (yi w), some (yi (clIn (clv M a) a (n - (a + 1)).toNat (a + 1) m g).1), some (yi (clIn (clv M a) a (n - (a + 1)).toNat (a + 1) m g).2), some (yi (a + 1)), some (yi n)]) (st' := []) (M' := M) (N' := N) rfl ?_
      exact ih (l5 := some (yi n)) (by omega) (by omega) (by omega)
theorem m_clashes {S : XS} {M N : YM} {w : Int} (hw : -2147483648 ≤ w ∧ w < 2147483648) (hI : InvS M) : rm S 4 155 [yr 75, yi w] M N (fun r M' N' => ∃ v : Int, some (yi v) = r ∧ (v = (if w < 0 ∨ 1 < w then -2 else if w = 0 then (clOut (clv M) (M 75 0) (M 75 0).toNat 0 0 (-1)).1 else (clOut (clv M) (M 75 0) (M 75 0).toNat 0 0 (-1)).2)) ∧ M = M' ∧ N = N') := by
  refine ⟨xe_155, m_155, Nat.le_of_ble_eq_true rfl, ?_⟩
  have g1 := hI.2.1
  refine r_run 3 (pc' := 3) (ls' := [some (yr 75), some (yi w), none, none, none, none]) (st' := [yi 1, yi 0, yi w]) (M' := M) (N' := N) rfl ?_
  refine r_static (mj := 112) (as := [yi w, yi 0, yi 1]) (rest := []) f_155_3 (by decide) rfl m_112 rfl rfl rfl (Nat.le_of_ble_eq_true rfl) (by omega) (m_in (by omega) (by omega) (by omega)) ?_
  rintro _ _ _ ⟨v3, rfl, hv3, rfl, rfl⟩
  refine r_if_ne (pc := 6) f_155_6 (by omega) (fun h6 => ?_) (fun h6 => ?_)
  · refine r_run 6 (pc' := 19) (ls' := [some (yr 75), some (yi w), some (yi 0), some (yi (-1)), some (yi 0), none]) (st' := []) (M' := M) (N' := N) rfl ?_
    refine r_post (m_clout (n := M 75 0) (j := (M 75 0).toNat) (l5 := none) (Nat.le_refl _) hI rfl (by omega) (by omega) (by omega) (by omega)) ?_
    rintro _ _ _ ⟨rfl, rfl, rfl⟩
    exact ⟨_, rfl, by rw [if_neg (show ¬ (w < 0 ∨ 1 < w) by omega)], rfl, rfl⟩
  · refine r_run 1 (pc' := 11) (ls' := [some (yr 75), some (yi w), none, none, none, none]) (st' := [yi (-2)]) (M' := M) (N' := N) rfl ?_
    refine r_iret m_155 rfl f_155_11 ?_
    exact ⟨_, rfl, by rw [if_pos (by omega)], rfl, rfl⟩
