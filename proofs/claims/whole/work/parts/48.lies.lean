def bor (a b : Int) : Int := (Int32.ofInt a ||| Int32.ofInt b).toInt
def bsh (k : Int) : Int := (Int32.ofInt 1 <<< (Int32.ofInt k &&& 31)).toInt
theorem bor_in (a b : Int) : -2147483648 ≤ bor a b ∧ bor a b < 2147483648 := ⟨Int32.le_toInt _, Int32.toInt_lt _⟩
theorem bor_zero {a : Int} (h : -2147483648 ≤ a ∧ a < 2147483648) : bor a 0 = a := by
  unfold bor
  rw [show Int32.ofInt 0 = 0 by decide, Int32.or_zero]
  exact t32 h
/-- bits of what f tells to be 0: turns left, the turn, the bits so far -/
def bitsR (f : Int → Int) : Nat → Int → Int → Int
  | 0, _, a => a
  | j + 1, k, a => if f k = 0 then bitsR f j (k + 1) (bor a (bsh k)) else bitsR f j (k + 1) a
theorem bitsR_yes {f : Int → Int} {j : Nat} {k a : Int} (h : f k = 0) : bitsR f (j + 1) k a = bitsR f j (k + 1) (bor a (bsh k)) := by
  rw [bitsR, if_pos h]
theorem bitsR_no {f : Int → Int} {j : Nat} {k a : Int} (h : ¬ f k = 0) : bitsR f (j + 1) k a = bitsR f j (k + 1) a := by
  rw [bitsR, if_neg h]
theorem bitsR_congr {f g : Int → Int} {j : Nat} : ∀ {k a : Int}, (∀ i, k ≤ i → i < k + j → f i = g i) → bitsR f j k a = bitsR g j k a := by
  induction j with
  | zero => intro k a h; rfl
  | succ j ih =>
    intro k a h
    rw [bitsR, bitsR, h k (by omega) (by omega), ih (fun i i0 i1 => h i (by omega) (by omega)), ih (fun i i0 i1 => h i (by omega) (by omega))]
/-- whether a saying, a link holds by sheet s -/
def sHold (M : YM) (s k : Int) : Int := if sFrom (M 76 (5 * k)) (M 76 (5 * k + 4)) (M 76 (5 * k + 2)) (M 76 (5 * k + 3)) (M 75 4) ≤ M 84 (40 * s + M 76 (5 * k + 1)) ∧ M 84 (40 * s + M 76 (5 * k + 1)) ≤ sUpTo (M 76 (5 * k)) (M 76 (5 * k + 4)) (M 76 (5 * k + 2)) (M 76 (5 * k + 3)) (M 75 4) then 1 else 0
def lHold (M : YM) (s k : Int) : Int := if M 77 (4 * k + 2) ≤ M 84 (40 * s + M 77 (4 * k + 1)) - M 84 (40 * s + M 77 (4 * k)) ∧ M 84 (40 * s + M 77 (4 * k + 1)) - M 84 (40 * s + M 77 (4 * k)) ≤ M 77 (4 * k + 3) then 1 else 0
theorem c_sholds {S : XS} {M N : YM} {b t : Int} (hb : 0 ≤ b ∧ b < 94) (hk : yk b = (202, 5)) (hbt : 0 ≤ t ∧ t < 94) (hkt : yk t = (0, 40)) (hs : sOk (M b 0) (M b 1) (M b 3) (M b 4)) (ho : 0 ≤ M b 2 ∧ M b 2 ≤ 5) {y : Int} (hy : 0 ≤ y ∧ y ≤ 99) (ht : -2147483648 ≤ M t (M b 2) ∧ M t (M b 2) < 2147483648) : rm S 2 28 [yr b, yr t, yi y] M N (fun r M' N' => ∃ v : Int, some (yi v) = r ∧ ((v = 1 ∧ sFrom (M b 0) (M b 1) (M b 3) (M b 4) y ≤ M t (M b 2) ∧ M t (M b 2) ≤ sUpTo (M b 0) (M b 1) (M b 3) (M b 4) y) ∨ (v = 0 ∧ (M t (M b 2) < sFrom (M b 0) (M b 1) (M b 3) (M b 4) y ∨ sUpTo (M b 0) (M b 1) (M b 3) (M b 4) y < M t (M b 2)))) ∧ M = M' ∧ N = N') := by
  refine ⟨xe_28, m_28, Nat.le_of_ble_eq_true rfl, ?_⟩
  have r1 := sFrom_in hs hy
  have r2 := sUpTo_in hs hy
  refine r_run 2 (pc' := 2) (ls' := [some (yr b), some (yr t), some (yi y)]) (st' := [yr b, yr t]) (M' := M) (N' := N) rfl ?_
  refine r_getf (n := 5) 2 rfl f_28_2 (by decide) (show xFT[14]? = some (2, 2) from rfl) (by decide) hb hk ?_
  refine r_iald (n := 40) f_28_5 hbt hkt (by decide) (by omega) ?_
  refine r_run 2 (pc' := 8) (ls' := [some (yr b), some (yr t), some (yi y)]) (st' := [yi y, yr b, yi (M t (M b 2))]) (M' := M) (N' := N) rfl ?_
  refine r_virtual (mj := 23) (b := b) (as := [yi y]) (rest := [yi (M t (M b 2))]) f_28_8 (by decide) rfl m_23 (by decide) hb (by rw [hk]; rfl) rfl rfl (Nat.le_of_ble_eq_true rfl) (by omega) (c_from hb hk hs hy) ?_
  rintro _ _ _ ⟨v8, rfl, hv8, rfl, rfl⟩
  refine r_run 2 (pc' := 13) (ls' := [some (yr b), some (yr t), some (yi y)]) (st' := [yi y, yr b, yi v8, yi (M t (M b 2))]) (M' := M) (N' := N) rfl ?_
  refine r_virtual (mj := 24) (b := b) (as := [yi y]) (rest := [yi v8, yi (M t (M b 2))]) f_28_13 (by decide) rfl m_24 (by decide) hb (by rw [hk]; rfl) rfl rfl (Nat.le_of_ble_eq_true rfl) (by omega) (c_upTo hb hk hs hy) ?_
  rintro _ _ _ ⟨v13, rfl, hv13, rfl, rfl⟩
  refine r_static (mj := 90) (as := [yi (M t (M b 2)), yi v8, yi v13]) (rest := []) f_28_16 (by decide) rfl m_90 rfl rfl rfl (Nat.le_of_ble_eq_true rfl) (by omega) (c_within (by omega) (by omega) (by omega)) ?_
  rintro _ _ _ ⟨v16, rfl, hv16, rfl, rfl⟩
  refine r_zret m_28 rfl f_28_19 (by omega) ?_
  exact ⟨_, rfl, by omega, rfl, rfl⟩
theorem c_lholds {S : XS} {M N : YM} {b t : Int} (hb : 0 ≤ b ∧ b < 94) (hk : yk b = (200, 4)) (hbt : 0 ≤ t ∧ t < 94) (hkt : yk t = (0, 40)) (h0 : 0 ≤ M b 0 ∧ M b 0 ≤ 5) (h1 : 0 ≤ M b 1 ∧ M b 1 ≤ 5) (h2 : -999 ≤ M b 2 ∧ M b 2 ≤ 999) (h3 : -999 ≤ M b 3 ∧ M b 3 ≤ 999) (ht : -2147483648 ≤ M t (M b 1) ∧ M t (M b 1) < 2147483648) (hu : -2147483648 ≤ M t (M b 0) ∧ M t (M b 0) < 2147483648) : rm S 1 3 [yr b, yr t] M N (fun r M' N' => ∃ v : Int, some (yi v) = r ∧ ((v = 1 ∧ M b 2 ≤ M t (M b 1) - M t (M b 0) ∧ M t (M b 1) - M t (M b 0) ≤ M b 3) ∨ (v = 0 ∧ (M t (M b 1) - M t (M b 0) < M b 2 ∨ M b 3 < M t (M b 1) - M t (M b 0)))) ∧ M = M' ∧ N = N') := by
  refine ⟨xe_3, m_3, Nat.le_of_ble_eq_true rfl, ?_⟩
  refine r_run 2 (pc' := 2) (ls' := [some (yr b), some (yr t), none, none]) (st' := [yr b, yr t]) (M' := M) (N' := N) rfl ?_
  refine r_getf (n := 4) 1 rfl f_3_2 (by decide) (show xFT[1]? = some (0, 1) from rfl) (by decide) hb hk ?_
  refine r_iald (n := 40) f_3_5 hbt hkt (by decide) (by omega) ?_
  refine r_i2l f_3_6 (by omega) ?_
  refine r_run 2 (pc' := 9) (ls' := [some (yr b), some (yr t), none, none]) (st' := [yr b, yr t, yj (M t (M b 1))]) (M' := M) (N' := N) rfl ?_
  refine r_getf (n := 4) 0 rfl f_3_9 (by decide) (show xFT[0]? = some (0, 0) from rfl) (by decide) hb hk ?_
  refine r_iald (n := 40) f_3_12 hbt hkt (by decide) (by omega) ?_
  refine r_i2l f_3_13 (by omega) ?_
  refine r_run 3 (pc' := 17) (ls' := [some (yr b), some (yr t), some (yj ((M t (M b 1)) - (M t (M b 0)))), none]) (st' := [yr b]) (M' := M) (N' := N) rfl ?_
  refine r_getf (n := 4) 2 rfl f_3_17 (by decide) (show xFT[2]? = some (0, 2) from rfl) (by decide) hb hk ?_
  refine r_i2l f_3_20 (by omega) ?_
  refine r_run 1 (pc' := 22) (ls' := [some (yr b), some (yr t), some (yj ((M t (M b 1)) - (M t (M b 0)))), none]) (st' := [yj ((M t (M b 1)) - (M t (M b 0))), yj (M b 2)]) (M' := M) (N' := N) rfl ?_
  refine r_lcmp f_3_22 (by omega) (by omega) (fun v22 hv22 => ?_)
  refine r_if_gt (pc := 23) f_3_23 (by omega) (fun h23 => ?_) (fun h23 => ?_)
  · refine r_run 1 (pc' := 41) (ls' := [some (yr b), some (yr t), some (yj ((M t (M b 1)) - (M t (M b 0)))), none]) (st' := [yi 0]) (M' := M) (N' := N) rfl ?_
    refine r_zret m_3 rfl f_3_41 (by omega) ?_
    exact ⟨_, rfl, by omega, rfl, rfl⟩
  · refine r_run 2 (pc' := 28) (ls' := [some (yr b), some (yr t), some (yj ((M t (M b 1)) - (M t (M b 0)))), none]) (st' := [yr b, yj ((M t (M b 1)) - (M t (M b 0)))]) (M' := M) (N' := N) rfl ?_
    refine r_getf (n := 4) 3 rfl f_3_28 (by decide) (show xFT[3]? = some (0, 3) from rfl) (by decide) hb hk ?_
    refine r_i2l f_3_31 (by omega) ?_
    refine r_lcmp f_3_32 (by omega) (by omega) (fun v32 hv32 => ?_)
    refine r_if_gt (pc := 33) f_3_33 (by omega) (fun h33 => ?_) (fun h33 => ?_)
    · refine r_run 1 (pc' := 41) (ls' := [some (yr b), some (yr t), some (yj ((M t (M b 1)) - (M t (M b 0)))), none]) (st' := [yi 0]) (M' := M) (N' := N) rfl ?_
      refine r_zret m_3 rfl f_3_41 (by omega) ?_
      exact ⟨_, rfl, by omega, rfl, rfl⟩
    · refine r_run 2 (pc' := 41) (ls' := [some (yr b), some (yr t), some (yj ((M t (M b 1)) - (M t (M b 0)))), none]) (st' := [yi 1]) (M' := M) (N' := N) rfl ?_
      refine r_zret m_3 rfl f_3_41 (by omega) ?_
      exact ⟨_, rfl, by omega, rfl, rfl⟩
/-- a local told otherwise -/
theorem r_loc {S : XS} {d mi pc : Nat} {ls : YL} {st : List YV} {M N : YM} {Q : Option YV → YM → YM → Prop} {a b : Int} (i : Nat) (h : ls[i]? = some (some (yi a))) (hb : a = b) (k : ry S d mi pc (ls.set i (some (yi b))) st M N Q) : ry S d mi pc ls st M N Q := by
  subst hb
  exact r_wrapl i h ⟨0, by omega⟩ k
theorem c_lies_loop {S : XS} {d : Nat} {s w n : Int} {M N : YM} (hd : 3 ≤ d) (hS : RS M M) (hH : RH M M) (hn : n = M 1 1) (hs0 : 0 ≤ s ∧ s < 4) {j : Nat} : ∀ {k a : Int}, 0 ≤ k → k + j = n → (-2147483648 ≤ a ∧ a < 2147483648) → ry S d 75 17 [some (yr 0), some (yi s), some (yi w), some (yi a), some (yi k)] [] M N (fun r M' N' => some (yi (bitsR (sHold M s) j k a)) = r ∧ M = M' ∧ N = N') := by
  induction j with
  | zero =>
    intro k a h0 h1 ha
    have g0 := hS.1
    have g1 := hS.2.1
    refine r_run 4 (pc' := 26) (ls' := [some (yr 0), some (yi s), some (yi w), some (yi a), some (yi k)]) (st' := [yi (M 1 1), yi k]) (M' := M) (N' := N) rfl ?_
    refine r_icmp_ge (pc := 26) f_75_26 (by omega) (by omega) (fun h26 => ?_) (fun h26 => ?_)
    · refine r_run 1 (pc' := 75) (ls' := [some (yr 0), some (yi s), some (yi w), some (yi a), some (yi k)]) (st' := [yi a]) (M' := M) (N' := N) rfl ?_
      refine r_iret m_75 rfl f_75_75 ?_
      exact ⟨rfl, rfl, rfl⟩
    · exfalso; omega
  | succ j ih =>
    intro k a h0 h1 ha
    have g0 := hS.1
    have g1 := hS.2.1
    obtain ⟨⟨e0, e1, e2, e3, e4⟩, hs, ho⟩ := hS.2.2.2.2 k (by omega) (by omega)
    have hD := (hH s hs0.1 hs0.2).2.2.2.2 (M 76 (5 * k + 1)) ho.1 (by omega)
    have r1 := sFrom_in hs hS.2.2.2.1
    have r2 := sUpTo_in hs hS.2.2.2.1
    refine r_run 4 (pc' := 26) (ls' := [some (yr 0), some (yi s), some (yi w), some (yi a), some (yi k)]) (st' := [yi (M 1 1), yi k]) (M' := M) (N' := N) rfl ?_
    refine r_icmp_ge (pc := 26) f_75_26 (by omega) (by omega) (fun h26 => ?_) (fun h26 => ?_)
    · exfalso; omega
    · refine r_run 4 (pc' := 38) (ls' := [some (yr 0), some (yi s), some (yi w), some (yi a), some (yi k)]) (st' := [yi k, yr 2]) (M' := M) (N' := N) rfl ?_
      refine r_aald (r := 3 + k) (kd := 102) (n := 10) f_75_38 (by decide) (by decide) (by decide) (by decide) (by omega) (rf_say (by omega)) ?_
      refine r_run 3 (pc' := 44) (ls' := [some (yr 0), some (yi s), some (yi w), some (yi a), some (yi k)]) (st' := [yi s, yr 32, yr (3 + k)]) (M' := M) (N' := N) rfl ?_
      refine r_aald (r := 67 + 2 * s) (kd := 103) (n := 4) f_75_44 (by decide) (by decide) (by decide) (by decide) (by omega) (rf_sheet (by omega)) ?_
      refine r_getr (r := 68 + 2 * s) (n := 3) f_75_45 (by decide) (show xFT[17]? = some (3, 0) from rfl) (by decide) (by omega) (yk_sheet (by omega)) (rf_scell (by omega)) ?_
      refine r_run 3 (pc' := 55) (ls' := [some (yr 0), some (yi s), some (yi w), some (yi a), some (yi k)]) (st' := [yi (M 1 3), yr (68 + 2 * s), yr (3 + k)]) (M' := M) (N' := N) rfl ?_
      refine r_virtual (mj := 28) (b := 3 + k) (as := [yr (68 + 2 * s), yi (M 1 3)]) (rest := []) f_75_55 (by decide) rfl m_28 (by decide) (by omega) (by rw [(yk_say (by omega))]; rfl) rfl rfl (Nat.le_of_ble_eq_true rfl) (by omega) (c_sholds (by omega) (yk_say (by omega)) (by omega) (yk_scell (by omega)) (by rw [e0, e1, e3, e4]; exact hs) (by rw [e2]; exact ho) (by rw [hS.2.2.1]; exact hS.2.2.2.1) (by rw [e2, hD.1]; exact hD.2)) ?_
      rintro _ _ _ ⟨v, rfl, hv, rfl, rfl⟩
      rw [e0, e1, e2, e3, e4, hS.2.2.1, hD.1] at hv
      refine r_if_ne (pc := 58) f_75_58 (by omega) (fun h58 => ?_) (fun h58 => ?_)
      · refine r_run 2 (pc' := 17) (ls' := [some (yr 0), some (yi s), some (yi w), some (yi a), some (yi (k + 1))]) (st' := []) (M' := M) (N' := N) rfl ?_
        rw [bitsR_no (show ¬ sHold M s k = 0 by unfold sHold; rw [if_pos (by omega)]; decide)]
        exact ih (by omega) (by omega) ha
      · refine r_run 8 (pc' := 17) (ls' := [some (yr 0), some (yi s), some (yi w), some (yi ((Int32.ofInt a ||| Int32.ofInt ((Int32.ofInt 1 <<< (Int32.ofInt k &&& 31)).toInt)).toInt)), some (yi (k + 1))]) (st' := []) (M' := M) (N' := N) rfl ?_
        rw [bitsR_yes (show sHold M s k = 0 by unfold sHold; rw [if_neg (by omega)])]
        exact ih (by omega) (by omega) (bor_in _ _)
theorem c_lies {S : XS} {M N : YM} {s : Int} (hs : -2147483648 ≤ s ∧ s < 2147483648) (hS : RS M M) (hH : RH M M) : rm S 3 75 [yr 0, yi s] M N (fun r M' N' => ∃ v : Int, some (yi v) = r ∧ (v = (if hWrong M s = 0 then bitsR (sHold M s) (M 75 0).toNat 0 0 else hWrong M s)) ∧ M = M' ∧ N = N') := by
  refine ⟨xe_75, m_75, Nat.le_of_ble_eq_true rfl, ?_⟩
  have g0 := hS.1
  have g1 := hS.2.1
  refine r_run 2 (pc' := 2) (ls' := [some (yr 0), some (yi s), none, none, none]) (st' := [yi s, yr 0]) (M' := M) (N' := N) rfl ?_
  refine r_virtual (mj := 108) (b := 0) (as := [yi s]) (rest := []) f_75_2 (by decide) rfl m_108 (by decide) (by decide) (by decide) rfl rfl (Nat.le_of_ble_eq_true rfl) (by omega) (c_refusal hs hH) ?_
  rintro _ _ _ ⟨v2, rfl, hv2, rfl, rfl⟩
  refine r_run 2 (pc' := 7) (ls' := [some (yr 0), some (yi s), some (yi v2), none, none]) (st' := [yi v2]) (M' := M) (N' := N) rfl ?_
  refine r_if_eq (pc := 7) f_75_7 (by rw [hv2]; unfold hWrong; (repeat' split) <;> omega) (fun h7 => ?_) (fun h7 => ?_)
  · refine r_run 4 (pc' := 17) (ls' := [some (yr 0), some (yi s), some (yi v2), some (yi 0), some (yi 0)]) (st' := []) (M' := M) (N' := N) rfl ?_
    have hs0 : 0 ≤ s ∧ s < 4 := by unfold hWrong at hv2; (repeat' split at hv2) <;> omega
    refine r_post (c_lies_loop (n := M 1 1) (j := (M 1 1).toNat) (Nat.le_refl _) hS hH rfl hs0 (Int.le_refl 0) (by omega) (by omega)) ?_
    rintro _ _ _ ⟨rfl, rfl, rfl⟩
    exact ⟨_, rfl, by rw [if_pos (by omega)]; rw [hS.1], rfl, rfl⟩
  · refine r_run 1 (pc' := 11) (ls' := [some (yr 0), some (yi s), some (yi v2), none, none]) (st' := [yi v2]) (M' := M) (N' := N) rfl ?_
    refine r_iret m_75 rfl f_75_11 ?_
    exact ⟨_, rfl, by rw [if_neg (by omega)]; exact hv2, rfl, rfl⟩
theorem m_lies_loop {S : XS} {d : Nat} {s w n : Int} {M N : YM} (hd : 3 ≤ d) (hS : RS M M) (hH : RH M M) (hn : n = M 75 0) (hs0 : 0 ≤ s ∧ s < 4) {j : Nat} : ∀ {k a : Int}, 0 ≤ k → k + j = n → (-2147483648 ≤ a ∧ a < 2147483648) → ry S d 174 17 [some (yr 75), some (yi s), some (yi w), some (yi a), some (yi k)] [] M N (fun r M' N' => some (yi (bitsR (sHold M s) j k a)) = r ∧ M = M' ∧ N = N') := by
  induction j with
  | zero =>
    intro k a h0 h1 ha
    have g0 := hS.1
    have g1 := hS.2.1
    refine r_run 3 (pc' := 23) (ls' := [some (yr 75), some (yi s), some (yi w), some (yi a), some (yi k)]) (st' := [yi (M 75 0), yi k]) (M' := M) (N' := N) rfl ?_
    refine r_icmp_ge (pc := 23) f_174_23 (by omega) (by omega) (fun h23 => ?_) (fun h23 => ?_)
    · refine r_run 1 (pc' := 83) (ls' := [some (yr 75), some (yi s), some (yi w), some (yi a), some (yi k)]) (st' := [yi a]) (M' := M) (N' := N) rfl ?_
      refine r_iret m_174 rfl f_174_83 ?_
      exact ⟨rfl, rfl, rfl⟩
    · exfalso; omega
  | succ j ih =>
    intro k a h0 h1 ha
    have g0 := hS.1
    have g1 := hS.2.1
    obtain ⟨⟨e0, e1, e2, e3, e4⟩, hs, ho⟩ := hS.2.2.2.2 k (by omega) (by omega)
    have hD := (hH s hs0.1 hs0.2).2.2.2.2 (M 76 (5 * k + 1)) ho.1 (by omega)
    have r1 := sFrom_in hs hS.2.2.2.1
    have r2 := sUpTo_in hs hS.2.2.2.1
    refine r_run 3 (pc' := 23) (ls' := [some (yr 75), some (yi s), some (yi w), some (yi a), some (yi k)]) (st' := [yi (M 75 0), yi k]) (M' := M) (N' := N) rfl ?_
    refine r_icmp_ge (pc := 23) f_174_23 (by omega) (by omega) (fun h23 => ?_) (fun h23 => ?_)
    · exfalso; omega
    · refine r_run 13 (pc' := 45) (ls' := [some (yr 75), some (yi s), some (yi w), some (yi a), some (yi k)]) (st' := [yi ((5 * k) + 1), yr 76, yi (40 * s), yr 84, yi a]) (M' := M) (N' := N) rfl ?_
      refine r_iald (n := 50) f_174_45 (by decide) (by decide) (by decide) (by omega) ?_
      refine r_run 1 (pc' := 47) (ls' := [some (yr 75), some (yi s), some (yi w), some (yi a), some (yi k)]) (st' := [yi ((40 * s) + (M 76 ((5 * k) + 1))), yr 84, yi a]) (M' := M) (N' := N) rfl ?_
      refine r_iald (n := 160) f_174_47 (by decide) (by decide) (by decide) (by omega) ?_
      refine r_run 2 (pc' := 51) (ls' := [some (yr 75), some (yi s), some (yi w), some (yi a), some (yi k)]) (st' := [yi k, yr 75, yi (M 84 ((40 * s) + (M 76 ((5 * k) + 1)))), yi a]) (M' := M) (N' := N) rfl ?_
      refine r_virtual (mj := 140) (b := 75) (as := [yi k]) (rest := [yi (M 84 ((40 * s) + (M 76 ((5 * k) + 1)))), yi a]) f_174_51 (by decide) rfl m_140 (by decide) (by decide) (by decide) rfl rfl (Nat.le_of_ble_eq_true rfl) (by omega) (m_fromOf (by omega) hs hS.2.2.2.1) ?_
      rintro _ _ _ ⟨v51, rfl, hv51, rfl, rfl⟩
      refine r_run 2 (pc' := 57) (ls' := [some (yr 75), some (yi s), some (yi w), some (yi a), some (yi k)]) (st' := [yi k, yr 75, yi v51, yi (M 84 ((40 * s) + (M 76 ((5 * k) + 1)))), yi a]) (M' := M) (N' := N) rfl ?_
      refine r_virtual (mj := 141) (b := 75) (as := [yi k]) (rest := [yi v51, yi (M 84 ((40 * s) + (M 76 ((5 * k) + 1)))), yi a]) f_174_57 (by decide) rfl m_141 (by decide) (by decide) (by decide) rfl rfl (Nat.le_of_ble_eq_true rfl) (by omega) (m_upTo (by omega) hs hS.2.2.2.1) ?_
      rintro _ _ _ ⟨v57, rfl, hv57, rfl, rfl⟩
      refine r_static (mj := 112) (as := [yi (M 84 ((40 * s) + (M 76 ((5 * k) + 1)))), yi v51, yi v57]) (rest := [yi a]) f_174_60 (by decide) rfl m_112 rfl rfl rfl (Nat.le_of_ble_eq_true rfl) (by omega) (m_in (by omega) (by omega) (by omega)) ?_
      rintro _ _ _ ⟨v60, rfl, hv60, rfl, rfl⟩
      refine r_if_eq (pc := 63) f_174_63 (by omega) (fun h63 => ?_) (fun h63 => ?_)
      · refine r_run 7 (pc' := 17) (ls' := [some (yr 75), some (yi s), some (yi w), some (yi ((Int32.ofInt a ||| Int32.ofInt ((Int32.ofInt 1 <<< (Int32.ofInt k &&& 31)).toInt)).toInt)), some (yi (k + 1))]) (st' := []) (M' := M) (N' := N) rfl ?_
        rw [bitsR_yes (show sHold M s k = 0 by unfold sHold; rw [if_neg (by omega)])]
        exact ih (by omega) (by omega) (bor_in _ _)
      · refine r_run 6 (pc' := 17) (ls' := [some (yr 75), some (yi s), some (yi w), some (yi ((Int32.ofInt a ||| Int32.ofInt 0).toInt)), some (yi (k + 1))]) (st' := []) (M' := M) (N' := N) rfl ?_
        rw [bitsR_no (show ¬ sHold M s k = 0 by unfold sHold; rw [if_pos (by omega)]; decide)]
        refine r_loc 3 (b := a) rfl (bor_zero ha) ?_
        exact ih (by omega) (by omega) ha
theorem m_lies {S : XS} {M N : YM} {s : Int} (hs : -2147483648 ≤ s ∧ s < 2147483648) (hS : RS M M) (hH : RH M M) : rm S 3 174 [yr 75, yi s] M N (fun r M' N' => ∃ v : Int, some (yi v) = r ∧ (v = (if hWrong M s = 0 then bitsR (sHold M s) (M 75 0).toNat 0 0 else hWrong M s)) ∧ M = M' ∧ N = N') := by
  refine ⟨xe_174, m_174, Nat.le_of_ble_eq_true rfl, ?_⟩
  have g0 := hS.1
  have g1 := hS.2.1
  refine r_run 2 (pc' := 2) (ls' := [some (yr 75), some (yi s), none, none, none]) (st' := [yi s, yr 75]) (M' := M) (N' := N) rfl ?_
  refine r_virtual (mj := 173) (b := 75) (as := [yi s]) (rest := []) f_174_2 (by decide) rfl m_173 (by decide) (by decide) (by decide) rfl rfl (Nat.le_of_ble_eq_true rfl) (by omega) (m_sheetWrong hs hH) ?_
  rintro _ _ _ ⟨v2, rfl, hv2, rfl, rfl⟩
  refine r_run 2 (pc' := 7) (ls' := [some (yr 75), some (yi s), some (yi v2), none, none]) (st' := [yi v2]) (M' := M) (N' := N) rfl ?_
  refine r_if_eq (pc := 7) f_174_7 (by rw [hv2]; unfold hWrong; (repeat' split) <;> omega) (fun h7 => ?_) (fun h7 => ?_)
  · refine r_run 4 (pc' := 17) (ls' := [some (yr 75), some (yi s), some (yi v2), some (yi 0), some (yi 0)]) (st' := []) (M' := M) (N' := N) rfl ?_
    have hs0 : 0 ≤ s ∧ s < 4 := by unfold hWrong at hv2; (repeat' split at hv2) <;> omega
    refine r_post (m_lies_loop (n := M 75 0) (j := (M 75 0).toNat) (Nat.le_refl _) hS hH rfl hs0 (Int.le_refl 0) (by omega) (by omega)) ?_
    rintro _ _ _ ⟨rfl, rfl, rfl⟩
    exact ⟨_, rfl, by rw [if_pos (by omega)], rfl, rfl⟩
  · refine r_run 1 (pc' := 11) (ls' := [some (yr 75), some (yi s), some (yi v2), none, none]) (st' := [yi v2]) (M' := M) (N' := N) rfl ?_
    refine r_iret m_174 rfl f_174_11 ?_
    exact ⟨_, rfl, by rw [if_neg (by omega)]; exact hv2, rfl, rfl⟩
theorem c_breaks_loop {S : XS} {d : Nat} {s w n : Int} {M N : YM} (hd : 3 ≤ d) (hL : RL M M) (hH : RH M M) (hn : n = M 1 2) (hs0 : 0 ≤ s ∧ s < 4) {j : Nat} : ∀ {k a : Int}, 0 ≤ k → k + j = n → (-2147483648 ≤ a ∧ a < 2147483648) → ry S d 76 17 [some (yr 0), some (yi s), some (yi w), some (yi a), some (yi k)] [] M N (fun r M' N' => some (yi (bitsR (lHold M s) j k a)) = r ∧ M = M' ∧ N = N') := by
  induction j with
  | zero =>
    intro k a h0 h1 ha
    have g0 := hL.1
    have g1 := hL.2.1
    refine r_run 4 (pc' := 26) (ls' := [some (yr 0), some (yi s), some (yi w), some (yi a), some (yi k)]) (st' := [yi (M 1 2), yi k]) (M' := M) (N' := N) rfl ?_
    refine r_icmp_ge (pc := 26) f_76_26 (by omega) (by omega) (fun h26 => ?_) (fun h26 => ?_)
    · refine r_run 1 (pc' := 65) (ls' := [some (yr 0), some (yi s), some (yi w), some (yi a), some (yi k)]) (st' := [yi a]) (M' := M) (N' := N) rfl ?_
      refine r_iret m_76 rfl f_76_65 ?_
      exact ⟨rfl, rfl, rfl⟩
    · exfalso; omega
  | succ j ih =>
    intro k a h0 h1 ha
    have g0 := hL.1
    have g1 := hL.2.1
    obtain ⟨⟨e0, e1, e2, e3⟩, hk0, hk1, hk2⟩ := hL.2.2 k (by omega) (by omega)
    have hD := (hH s hs0.1 hs0.2).2.2.2.2 (M 77 (4 * k + 1)) hk1.1 (by omega)
    have hE := (hH s hs0.1 hs0.2).2.2.2.2 (M 77 (4 * k)) hk0.1 (by omega)
    refine r_run 4 (pc' := 26) (ls' := [some (yr 0), some (yi s), some (yi w), some (yi a), some (yi k)]) (st' := [yi (M 1 2), yi k]) (M' := M) (N' := N) rfl ?_
    refine r_icmp_ge (pc := 26) f_76_26 (by omega) (by omega) (fun h26 => ?_) (fun h26 => ?_)
    · exfalso; omega
    · refine r_run 3 (pc' := 35) (ls' := [some (yr 0), some (yi s), some (yi w), some (yi a), some (yi k)]) (st' := [yi k, yr 25]) (M' := M) (N' := N) rfl ?_
      refine r_aald (r := 41 + k) (kd := 100) (n := 8) f_76_35 (by decide) (by decide) (by decide) (by decide) (by omega) (rf_link (by omega)) ?_
      refine r_run 3 (pc' := 41) (ls' := [some (yr 0), some (yi s), some (yi w), some (yi a), some (yi k)]) (st' := [yi s, yr 32, yr (41 + k)]) (M' := M) (N' := N) rfl ?_
      refine r_aald (r := 67 + 2 * s) (kd := 103) (n := 4) f_76_41 (by decide) (by decide) (by decide) (by decide) (by omega) (rf_sheet (by omega)) ?_
      refine r_getr (r := 68 + 2 * s) (n := 3) f_76_42 (by decide) (show xFT[17]? = some (3, 0) from rfl) (by decide) (by omega) (yk_sheet (by omega)) (rf_scell (by omega)) ?_
      refine r_virtual (mj := 3) (b := 41 + k) (as := [yr (68 + 2 * s)]) (rest := []) f_76_45 (by decide) rfl m_3 (by decide) (by omega) (by rw [(yk_link (by omega))]; rfl) rfl rfl (Nat.le_of_ble_eq_true rfl) (by omega) (c_lholds (by omega) (yk_link (by omega)) (by omega) (yk_scell (by omega)) (by omega) (by omega) (by omega) (by omega) (by rw [e1, hD.1]; exact hD.2) (by rw [e0, hE.1]; exact hE.2)) ?_
      rintro _ _ _ ⟨v, rfl, hv, rfl, rfl⟩
      rw [e0, e1, e2, e3, hD.1, hE.1] at hv
      refine r_if_ne (pc := 48) f_76_48 (by omega) (fun h48 => ?_) (fun h48 => ?_)
      · refine r_run 2 (pc' := 17) (ls' := [some (yr 0), some (yi s), some (yi w), some (yi a), some (yi (k + 1))]) (st' := []) (M' := M) (N' := N) rfl ?_
        rw [bitsR_no (show ¬ lHold M s k = 0 by unfold lHold; rw [if_pos (by omega)]; decide)]
        exact ih (by omega) (by omega) ha
      · refine r_run 8 (pc' := 17) (ls' := [some (yr 0), some (yi s), some (yi w), some (yi ((Int32.ofInt a ||| Int32.ofInt ((Int32.ofInt 1 <<< (Int32.ofInt k &&& 31)).toInt)).toInt)), some (yi (k + 1))]) (st' := []) (M' := M) (N' := N) rfl ?_
        rw [bitsR_yes (show lHold M s k = 0 by unfold lHold; rw [if_neg (by omega)])]
        exact ih (by omega) (by omega) (bor_in _ _)
theorem c_breaks {S : XS} {M N : YM} {s : Int} (hs : -2147483648 ≤ s ∧ s < 2147483648) (hL : RL M M) (hH : RH M M) : rm S 3 76 [yr 0, yi s] M N (fun r M' N' => ∃ v : Int, some (yi v) = r ∧ (v = (if hWrong M s = 0 then bitsR (lHold M s) (M 75 2).toNat 0 0 else hWrong M s)) ∧ M = M' ∧ N = N') := by
  refine ⟨xe_76, m_76, Nat.le_of_ble_eq_true rfl, ?_⟩
  have g0 := hL.1
  have g1 := hL.2.1
  refine r_run 2 (pc' := 2) (ls' := [some (yr 0), some (yi s), none, none, none]) (st' := [yi s, yr 0]) (M' := M) (N' := N) rfl ?_
  refine r_virtual (mj := 108) (b := 0) (as := [yi s]) (rest := []) f_76_2 (by decide) rfl m_108 (by decide) (by decide) (by decide) rfl rfl (Nat.le_of_ble_eq_true rfl) (by omega) (c_refusal hs hH) ?_
  rintro _ _ _ ⟨v2, rfl, hv2, rfl, rfl⟩
  refine r_run 2 (pc' := 7) (ls' := [some (yr 0), some (yi s), some (yi v2), none, none]) (st' := [yi v2]) (M' := M) (N' := N) rfl ?_
  refine r_if_eq (pc := 7) f_76_7 (by rw [hv2]; unfold hWrong; (repeat' split) <;> omega) (fun h7 => ?_) (fun h7 => ?_)
  · refine r_run 4 (pc' := 17) (ls' := [some (yr 0), some (yi s), some (yi v2), some (yi 0), some (yi 0)]) (st' := []) (M' := M) (N' := N) rfl ?_
    have hs0 : 0 ≤ s ∧ s < 4 := by unfold hWrong at hv2; (repeat' split at hv2) <;> omega
    refine r_post (c_breaks_loop (n := M 1 2) (j := (M 1 2).toNat) (Nat.le_refl _) hL hH rfl hs0 (Int.le_refl 0) (by omega) (by omega)) ?_
    rintro _ _ _ ⟨rfl, rfl, rfl⟩
    exact ⟨_, rfl, by rw [if_pos (by omega)]; rw [hL.1], rfl, rfl⟩
  · refine r_run 1 (pc' := 11) (ls' := [some (yr 0), some (yi s), some (yi v2), none, none]) (st' := [yi v2]) (M' := M) (N' := N) rfl ?_
    refine r_iret m_76 rfl f_76_11 ?_
    exact ⟨_, rfl, by rw [if_neg (by omega)]; exact hv2, rfl, rfl⟩
theorem m_breaks_loop {S : XS} {d : Nat} {s w n : Int} {M N : YM} (hd : 3 ≤ d) (hL : RL M M) (hH : RH M M) (hn : n = M 75 2) (hs0 : 0 ≤ s ∧ s < 4) {j : Nat} : ∀ {k a : Int} {l5 : Option YV}, 0 ≤ k → k + j = n → (-2147483648 ≤ a ∧ a < 2147483648) → ry S d 175 17 [some (yr 75), some (yi s), some (yi w), some (yi a), some (yi k), l5, none] [] M N (fun r M' N' => some (yi (bitsR (lHold M s) j k a)) = r ∧ M = M' ∧ N = N') := by
  induction j with
  | zero =>
    intro k a l5 h0 h1 ha
    have g0 := hL.1
    have g1 := hL.2.1
    refine r_run 3 (pc' := 23) (ls' := [some (yr 75), some (yi s), some (yi w), some (yi a), some (yi k), l5, none]) (st' := [yi (M 75 2), yi k]) (M' := M) (N' := N) rfl ?_
    refine r_icmp_ge (pc := 23) f_175_23 (by omega) (by omega) (fun h23 => ?_) (fun h23 => ?_)
    · refine r_run 1 (pc' := 125) (ls' := [some (yr 75), some (yi s), some (yi w), some (yi a), some (yi k), l5, none]) (st' := [yi a]) (M' := M) (N' := N) rfl ?_
      refine r_iret m_175 rfl f_175_125 ?_
      exact ⟨rfl, rfl, rfl⟩
    · exfalso; omega
  | succ j ih =>
    intro k a l5 h0 h1 ha
    have g0 := hL.1
    have g1 := hL.2.1
    obtain ⟨⟨e0, e1, e2, e3⟩, hk0, hk1, hk2⟩ := hL.2.2 k (by omega) (by omega)
    have hD := (hH s hs0.1 hs0.2).2.2.2.2 (M 77 (4 * k + 1)) hk1.1 (by omega)
    have hE := (hH s hs0.1 hs0.2).2.2.2.2 (M 77 (4 * k)) hk0.1 (by omega)
    refine r_run 3 (pc' := 23) (ls' := [some (yr 75), some (yi s), some (yi w), some (yi a), some (yi k), l5, none]) (st' := [yi (M 75 2), yi k]) (M' := M) (N' := N) rfl ?_
    refine r_icmp_ge (pc := 23) f_175_23 (by omega) (by omega) (fun h23 => ?_) (fun h23 => ?_)
    · exfalso; omega
    · refine r_run 12 (pc' := 44) (ls' := [some (yr 75), some (yi s), some (yi w), some (yi a), some (yi k), l5, none]) (st' := [yi ((4 * k) + 1), yr 77, yi (40 * s), yr 84]) (M' := M) (N' := N) rfl ?_
      refine r_iald (n := 32) f_175_44 (by decide) (by decide) (by decide) (by omega) ?_
      refine r_run 1 (pc' := 46) (ls' := [some (yr 75), some (yi s), some (yi w), some (yi a), some (yi k), l5, none]) (st' := [yi ((40 * s) + (M 77 ((4 * k) + 1))), yr 84]) (M' := M) (N' := N) rfl ?_
      refine r_iald (n := 160) f_175_46 (by decide) (by decide) (by decide) (by omega) ?_
      refine r_i2l f_175_47 (by omega) ?_
      refine r_run 10 (pc' := 64) (ls' := [some (yr 75), some (yi s), some (yi w), some (yi a), some (yi k), l5, none]) (st' := [yi (4 * k), yr 77, yi (40 * s), yr 84, yj (M 84 ((40 * s) + (M 77 ((4 * k) + 1))))]) (M' := M) (N' := N) rfl ?_
      refine r_iald (n := 32) f_175_64 (by decide) (by decide) (by decide) (by omega) ?_
      refine r_run 1 (pc' := 66) (ls' := [some (yr 75), some (yi s), some (yi w), some (yi a), some (yi k), l5, none]) (st' := [yi ((40 * s) + (M 77 (4 * k))), yr 84, yj (M 84 ((40 * s) + (M 77 ((4 * k) + 1))))]) (M' := M) (N' := N) rfl ?_
      refine r_iald (n := 160) f_175_66 (by decide) (by decide) (by decide) (by omega) ?_
      refine r_i2l f_175_67 (by omega) ?_
      refine r_run 11 (pc' := 84) (ls' := [some (yr 75), some (yi s), some (yi w), some (yi a), some (yi k), some (yj ((M 84 ((40 * s) + (M 77 ((4 * k) + 1)))) - (M 84 ((40 * s) + (M 77 (4 * k)))))), none]) (st' := [yi ((4 * k) + 2), yr 77, yj ((M 84 ((40 * s) + (M 77 ((4 * k) + 1)))) - (M 84 ((40 * s) + (M 77 (4 * k))))), yi a]) (M' := M) (N' := N) rfl ?_
      refine r_iald (n := 32) f_175_84 (by decide) (by decide) (by decide) (by omega) ?_
      refine r_i2l f_175_85 (by omega) ?_
      refine r_lcmp f_175_86 (by omega) (by omega) (fun v86 hv86 => ?_)
      refine r_if_lt (pc := 87) f_175_87 (by omega) (fun h87 => ?_) (fun h87 => ?_)
      · refine r_run 7 (pc' := 17) (ls' := [some (yr 75), some (yi s), some (yi w), some (yi ((Int32.ofInt a ||| Int32.ofInt ((Int32.ofInt 1 <<< (Int32.ofInt k &&& 31)).toInt)).toInt)), some (yi (k + 1)), some (yj ((M 84 ((40 * s) + (M 77 ((4 * k) + 1)))) - (M 84 ((40 * s) + (M 77 (4 * k)))))), none]) (st' := []) (M' := M) (N' := N) rfl ?_
        rw [bitsR_yes (show lHold M s k = 0 by unfold lHold; rw [if_neg (by omega)])]
        exact ih (l5 := some (yj (M 84 (40 * s + M 77 (4 * k + 1)) - M 84 (40 * s + M 77 (4 * k))))) (by omega) (by omega) (bor_in _ _)
      · refine r_run 8 (pc' := 102) (ls' := [some (yr 75), some (yi s), some (yi w), some (yi a), some (yi k), some (yj ((M 84 ((40 * s) + (M 77 ((4 * k) + 1)))) - (M 84 ((40 * s) + (M 77 (4 * k)))))), none]) (st' := [yi ((4 * k) + 3), yr 77, yj ((M 84 ((40 * s) + (M 77 ((4 * k) + 1)))) - (M 84 ((40 * s) + (M 77 (4 * k))))), yi a]) (M' := M) (N' := N) rfl ?_
        refine r_iald (n := 32) f_175_102 (by decide) (by decide) (by decide) (by omega) ?_
        refine r_i2l f_175_103 (by omega) ?_
        refine r_lcmp f_175_104 (by omega) (by omega) (fun v104 hv104 => ?_)
        refine r_if_gt (pc := 105) f_175_105 (by omega) (fun h105 => ?_) (fun h105 => ?_)
        · refine r_run 7 (pc' := 17) (ls' := [some (yr 75), some (yi s), some (yi w), some (yi ((Int32.ofInt a ||| Int32.ofInt ((Int32.ofInt 1 <<< (Int32.ofInt k &&& 31)).toInt)).toInt)), some (yi (k + 1)), some (yj ((M 84 ((40 * s) + (M 77 ((4 * k) + 1)))) - (M 84 ((40 * s) + (M 77 (4 * k)))))), none]) (st' := []) (M' := M) (N' := N) rfl ?_
          rw [bitsR_yes (show lHold M s k = 0 by unfold lHold; rw [if_neg (by omega)])]
          exact ih (l5 := some (yj (M 84 (40 * s + M 77 (4 * k + 1)) - M 84 (40 * s + M 77 (4 * k))))) (by omega) (by omega) (bor_in _ _)
        · refine r_run 6 (pc' := 17) (ls' := [some (yr 75), some (yi s), some (yi w), some (yi ((Int32.ofInt a ||| Int32.ofInt 0).toInt)), some (yi (k + 1)), some (yj ((M 84 ((40 * s) + (M 77 ((4 * k) + 1)))) - (M 84 ((40 * s) + (M 77 (4 * k)))))), none]) (st' := []) (M' := M) (N' := N) rfl ?_
          rw [bitsR_no (show ¬ lHold M s k = 0 by unfold lHold; rw [if_pos (by omega)]; decide)]
          refine r_loc 3 (b := a) rfl (bor_zero ha) ?_
          exact ih (l5 := some (yj (M 84 (40 * s + M 77 (4 * k + 1)) - M 84 (40 * s + M 77 (4 * k))))) (by omega) (by omega) ha
theorem m_breaks {S : XS} {M N : YM} {s : Int} (hs : -2147483648 ≤ s ∧ s < 2147483648) (hL : RL M M) (hH : RH M M) : rm S 3 175 [yr 75, yi s] M N (fun r M' N' => ∃ v : Int, some (yi v) = r ∧ (v = (if hWrong M s = 0 then bitsR (lHold M s) (M 75 2).toNat 0 0 else hWrong M s)) ∧ M = M' ∧ N = N') := by
  refine ⟨xe_175, m_175, Nat.le_of_ble_eq_true rfl, ?_⟩
  have g0 := hL.1
  have g1 := hL.2.1
  refine r_run 2 (pc' := 2) (ls' := [some (yr 75), some (yi s), none, none, none, none, none]) (st' := [yi s, yr 75]) (M' := M) (N' := N) rfl ?_
  refine r_virtual (mj := 173) (b := 75) (as := [yi s]) (rest := []) f_175_2 (by decide) rfl m_173 (by decide) (by decide) (by decide) rfl rfl (Nat.le_of_ble_eq_true rfl) (by omega) (m_sheetWrong hs hH) ?_
  rintro _ _ _ ⟨v2, rfl, hv2, rfl, rfl⟩
  refine r_run 2 (pc' := 7) (ls' := [some (yr 75), some (yi s), some (yi v2), none, none, none, none]) (st' := [yi v2]) (M' := M) (N' := N) rfl ?_
  refine r_if_eq (pc := 7) f_175_7 (by rw [hv2]; unfold hWrong; (repeat' split) <;> omega) (fun h7 => ?_) (fun h7 => ?_)
  · refine r_run 4 (pc' := 17) (ls' := [some (yr 75), some (yi s), some (yi v2), some (yi 0), some (yi 0), none, none]) (st' := []) (M' := M) (N' := N) rfl ?_
    have hs0 : 0 ≤ s ∧ s < 4 := by unfold hWrong at hv2; (repeat' split at hv2) <;> omega
    refine r_post (m_breaks_loop (n := M 75 2) (j := (M 75 2).toNat) (Nat.le_refl _) hL hH rfl hs0 (Int.le_refl 0) (by omega) (by omega)) ?_
    rintro _ _ _ ⟨rfl, rfl, rfl⟩
    exact ⟨_, rfl, by rw [if_pos (by omega)], rfl, rfl⟩
  · refine r_run 1 (pc' := 11) (ls' := [some (yr 75), some (yi s), some (yi v2), none, none, none, none]) (st' := [yi v2]) (M' := M) (N' := N) rfl ?_
    refine r_iret m_175 rfl f_175_11 ?_
    exact ⟨_, rfl, by rw [if_neg (by omega)]; exact hv2, rfl, rfl⟩
