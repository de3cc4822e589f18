/-! the reference takes a token -/
theorem m_nx_b {S : XS} {d : Nat} {n : Int} {M N : YM} {Q : Option YV → YM → YM → Prop} (ht : tpOk (M 78) n) (hn : M 75 6 = n) {j : Nat} : ∀ {i : Int}, 0 ≤ i → i + j = n → ry S d 123 52 [some (yr 75), none, none] [] (yu M 75 21 (scn isB (M 78) n j i)) N Q → ry S d 123 0 [some (yr 75), none, none] [] (yu M 75 21 i) N Q := by
  induction j with
  | zero =>
    intro i h0 h1 kk
    have n160 := ht.1
    refine r_run 4 (pc' := 8) (ls' := [some (yr 75), none, none]) (st' := [yi (M 75 6), yi i]) (M' := (yu M 75 21 i)) (N' := N) rfl ?_
    refine r_icmp_ge (pc := 8) f_123_8 (by omega) (by omega) (fun h8 => ?_) (fun h8 => ?_)
    · rw [scn_no (by intro h; have h2 := h.1; omega)] at kk
      exact kk
    · exfalso; omega
  | succ j ih =>
    intro i h0 h1 kk
    have n160 := ht.1
    have hT := ht.2 i h0 (by omega)
    refine r_run 4 (pc' := 8) (ls' := [some (yr 75), none, none]) (st' := [yi (M 75 6), yi i]) (M' := (yu M 75 21 i)) (N' := N) rfl ?_
    refine r_icmp_ge (pc := 8) f_123_8 (by omega) (by omega) (fun h8 => ?_) (fun h8 => ?_)
    · rw [scn_no (by intro h; have h2 := h.1; omega)] at kk
      exact kk
    · refine r_run 4 (pc' := 19) (ls' := [some (yr 75), none, none]) (st' := [yi i, yr 78]) (M' := (yu M 75 21 i)) (N' := N) rfl ?_
      refine r_iald (n := 160) f_123_19 (by decide) (by decide) (by decide) (by omega) ?_
      refine r_run 1 (pc' := 22) (ls' := [some (yr 75), none, none]) (st' := [yi 32, yi (M 78 i)]) (M' := (yu M 75 21 i)) (N' := N) rfl ?_
      refine r_icmp_eq (pc := 22) f_123_22 (by omega) (by omega) (fun h22 => ?_) (fun h22 => ?_)
      · refine r_run 7 (pc' := 0) (ls' := [some (yr 75), none, none]) (st' := []) (M' := (yu (yu M 75 21 i) 75 21 (i + 1))) (N' := N) rfl ?_
        rw [yu_yu]
        refine ih (by omega) (by omega) ?_
        rw [scn_yes (show i < n by omega) (isB_yes (by omega))] at kk
        exact kk
      · refine r_run 4 (pc' := 33) (ls' := [some (yr 75), none, none]) (st' := [yi i, yr 78]) (M' := (yu M 75 21 i)) (N' := N) rfl ?_
        refine r_iald (n := 160) f_123_33 (by decide) (by decide) (by decide) (by omega) ?_
        refine r_run 1 (pc' := 36) (ls' := [some (yr 75), none, none]) (st' := [yi 10, yi (M 78 i)]) (M' := (yu M 75 21 i)) (N' := N) rfl ?_
        refine r_icmp_ne (pc := 36) f_123_36 (by omega) (by omega) (fun h36 => ?_) (fun h36 => ?_)
        · rw [scn_no (by intro h; have h2 := h.2; rw [isB_no (by omega)] at h2; exact absurd h2 (by decide))] at kk
          exact kk
        · refine r_run 7 (pc' := 0) (ls' := [some (yr 75), none, none]) (st' := []) (M' := (yu (yu M 75 21 i) 75 21 (i + 1))) (N' := N) rfl ?_
          rw [yu_yu]
          refine ih (by omega) (by omega) ?_
          rw [scn_yes (show i < n by omega) (isB_yes (by omega))] at kk
          exact kk
theorem m_nx_w {S : XS} {d : Nat} {n c : Int} {M N : YM} {Q : Option YV → YM → YM → Prop} (hd : 1 ≤ d) (ht : tpOk (M 78) n) (hn : M 75 6 = n) {j : Nat} : ∀ {i : Int}, 0 ≤ i → i + j = n → ry S d 123 146 [some (yr 75), some (yi c), none] [] (yu M 75 21 (scn isL (M 78) n j i)) N Q → ry S d 123 103 [some (yr 75), some (yi c), none] [] (yu M 75 21 i) N Q := by
  induction j with
  | zero =>
    intro i h0 h1 kk
    have n160 := ht.1
    refine r_run 4 (pc' := 111) (ls' := [some (yr 75), some (yi c), none]) (st' := [yi (M 75 6), yi i]) (M' := (yu M 75 21 i)) (N' := N) rfl ?_
    refine r_icmp_ge (pc := 111) f_123_111 (by omega) (by omega) (fun h111 => ?_) (fun h111 => ?_)
    · rw [scn_no (by intro h; have h2 := h.1; omega)] at kk
      exact kk
    · exfalso; omega
  | succ j ih =>
    intro i h0 h1 kk
    have n160 := ht.1
    have hT := ht.2 i h0 (by omega)
    refine r_run 4 (pc' := 111) (ls' := [some (yr 75), some (yi c), none]) (st' := [yi (M 75 6), yi i]) (M' := (yu M 75 21 i)) (N' := N) rfl ?_
    refine r_icmp_ge (pc := 111) f_123_111 (by omega) (by omega) (fun h111 => ?_) (fun h111 => ?_)
    · rw [scn_no (by intro h; have h2 := h.1; omega)] at kk
      exact kk
    · refine r_run 4 (pc' := 122) (ls' := [some (yr 75), some (yi c), none]) (st' := [yi i, yr 78]) (M' := (yu M 75 21 i)) (N' := N) rfl ?_
      refine r_iald (n := 160) f_123_122 (by decide) (by decide) (by decide) (by omega) ?_
      refine r_run 2 (pc' := 127) (ls' := [some (yr 75), some (yi c), none]) (st' := [yi 122, yi 97, yi (M 78 i)]) (M' := (yu M 75 21 i)) (N' := N) rfl ?_
      refine r_static (mj := 112) (as := [yi (M 78 i), yi 97, yi 122]) (rest := []) f_123_127 (by decide) rfl m_112 rfl rfl rfl (Nat.le_of_ble_eq_true rfl) (by omega) (m_in (by omega) (by omega) (by omega)) ?_
      rintro _ _ _ ⟨v127, rfl, hv127, rfl, rfl⟩
      refine r_if_eq (pc := 130) f_123_130 (by omega) (fun h130 => ?_) (fun h130 => ?_)
      · rw [scn_no (by intro h; have h2 := h.2; rw [isL_no (by omega)] at h2; exact absurd h2 (by decide))] at kk
        exact kk
      · refine r_run 7 (pc' := 103) (ls' := [some (yr 75), some (yi c), none]) (st' := []) (M' := (yu (yu M 75 21 i) 75 21 (i + 1))) (N' := N) rfl ?_
        rw [yu_yu]
        refine ih (by omega) (by omega) ?_
        rw [scn_yes (show i < n by omega) (isL_yes (by omega))] at kk
        exact kk
theorem m_nx_d {S : XS} {d : Nat} {n c : Int} {M N : YM} {Q : Option YV → YM → YM → Prop} (hd : 1 ≤ d) (ht : tpOk (M 78) n) (hn : M 75 6 = n) {j : Nat} : ∀ {i x a : Int}, 0 ≤ i → i + j = n → (0 ≤ x ∧ x ≤ i) → ry S d 123 309 [some (yr 75), some (yi c), some (yi (x + (scn isD (M 78) n j i - i)))] [] (yu (yu M 75 24 (mv (M 78) (scn isD (M 78) n j i - i).toNat x i a)) 75 21 (scn isD (M 78) n j i)) N Q → ry S d 123 230 [some (yr 75), some (yi c), some (yi x)] [] (yu (yu M 75 24 a) 75 21 i) N Q := by
  induction j with
  | zero =>
    intro i x a h0 h1 hx kk
    have n160 := ht.1
    refine r_run 4 (pc' := 238) (ls' := [some (yr 75), some (yi c), some (yi x)]) (st' := [yi (M 75 6), yi i]) (M' := (yu (yu M 75 24 a) 75 21 i)) (N' := N) rfl ?_
    refine r_icmp_ge (pc := 238) f_123_238 (by omega) (by omega) (fun h238 => ?_) (fun h238 => ?_)
    · rw [scn_no (by intro h; have h2 := h.1; omega)] at kk
      rw [Int.sub_self, Int.add_zero] at kk
      exact kk
    · exfalso; omega
  | succ j ih =>
    intro i x a h0 h1 hx kk
    have n160 := ht.1
    have hT := ht.2 i h0 (by omega)
    refine r_run 4 (pc' := 238) (ls' := [some (yr 75), some (yi c), some (yi x)]) (st' := [yi (M 75 6), yi i]) (M' := (yu (yu M 75 24 a) 75 21 i)) (N' := N) rfl ?_
    refine r_icmp_ge (pc := 238) f_123_238 (by omega) (by omega) (fun h238 => ?_) (fun h238 => ?_)
    · rw [scn_no (by intro h; have h2 := h.1; omega)] at kk
      rw [Int.sub_self, Int.add_zero] at kk
      exact kk
    · refine r_run 4 (pc' := 249) (ls' := [some (yr 75), some (yi c), some (yi x)]) (st' := [yi i, yr 78]) (M' := (yu (yu M 75 24 a) 75 21 i)) (N' := N) rfl ?_
      refine r_iald (n := 160) f_123_249 (by decide) (by decide) (by decide) (by omega) ?_
      refine r_run 2 (pc' := 254) (ls' := [some (yr 75), some (yi c), some (yi x)]) (st' := [yi 57, yi 48, yi (M 78 i)]) (M' := (yu (yu M 75 24 a) 75 21 i)) (N' := N) rfl ?_
      refine r_static (mj := 112) (as := [yi (M 78 i), yi 48, yi 57]) (rest := []) f_123_254 (by decide) rfl m_112 rfl rfl rfl (Nat.le_of_ble_eq_true rfl) (by omega) (m_in (by omega) (by omega) (by omega)) ?_
      rintro _ _ _ ⟨v254, rfl, hv254, rfl, rfl⟩
      refine r_if_eq (pc := 257) f_123_257 (by omega) (fun h257 => ?_) (fun h257 => ?_)
      · rw [scn_no (by intro h; have h2 := h.2; rw [isD_no (by omega)] at h2; exact absurd h2 (by decide))] at kk
        rw [Int.sub_self, Int.add_zero] at kk
        exact kk
      · refine r_run 3 (pc' := 263) (ls' := [some (yr 75), some (yi c), some (yi x)]) (st' := [yi 4, yi x, yr 75]) (M' := (yu (yu M 75 24 a) 75 21 i)) (N' := N) rfl ?_
        refine r_icmp_ge (pc := 263) f_123_263 (by omega) (by omega) (fun h263 => ?_) (fun h263 => ?_)
        · refine r_run 10 (pc' := 230) (ls' := [some (yr 75), some (yi c), some (yi (x + 1))]) (st' := []) (M' := (yu (yu (yu (yu M 75 24 a) 75 21 i) 75 24 0) 75 21 (i + 1))) (N' := N) rfl ?_
          rw [yu_4 (by decide)]
          refine ih (by omega) (by omega) (by omega) ?_
          have hl := @scn_in isD (M 78) n j (i + 1)
          rw [scn_yes (show i < n by omega) (isD_yes (by omega)), mv_step (by omega), if_neg (show ¬ x < 4 by omega), show x + (scn isD (M 78) n j (i + 1) - i) = x + 1 + (scn isD (M 78) n j (i + 1) - (i + 1)) by omega] at kk
          exact kk
        · refine r_run 8 (pc' := 281) (ls' := [some (yr 75), some (yi c), some (yi x)]) (st' := [yi i, yr 78, yi (10 * a), yr 75]) (M' := (yu (yu M 75 24 a) 75 21 i)) (N' := N) rfl ?_
          refine r_iald (n := 160) f_123_281 (by decide) (by decide) (by decide) (by omega) ?_
          refine r_run 13 (pc' := 230) (ls' := [some (yr 75), some (yi c), some (yi (x + 1))]) (st' := []) (M' := (yu (yu (yu (yu M 75 24 a) 75 21 i) 75 24 (((10 * a) + (M 78 i)) - 48)) 75 21 (i + 1))) (N' := N) rfl ?_
          rw [yu_4 (by decide)]
          refine ih (by omega) (by omega) (by omega) ?_
          have hl := @scn_in isD (M 78) n j (i + 1)
          rw [scn_yes (show i < n by omega) (isD_yes (by omega)), mv_step (by omega), if_pos (show x < 4 by omega), show x + (scn isD (M 78) n j (i + 1) - i) = x + 1 + (scn isD (M 78) n j (i + 1) - (i + 1)) by omega] at kk
          exact kk
theorem m_next {S : XS} {M N : YM} {n : Int} (ht : tpOk (M 78) n) (hW : RW M) (hn : M 75 6 = n) {q : Int} (hq : 0 ≤ q ∧ q ≤ n) (h4 : M 75 21 = q) {b : Int} (hb : b = tB (M 78) n q) : rm S 2 123 [yr 75] M N (fun r M' N' => none = r ∧ ((∀ c, c ≠ 75 → M' c = M c) ∧ (∀ k, k < 21 ∨ 24 < k → M' 75 k = M 75 k) ∧ M' 75 22 = b ∧ M' 75 21 = eAt (M 78) n b ∧ M' 75 23 = mTok (kAt (M 78) n b) ∧ (kAt (M 78) n b = 2 ∨ kAt (M 78) n b = 3 → M' 75 24 = vAt (M 78) n b) ∧ (7 ≤ kAt (M 78) n b ∧ kAt (M 78) n b ≤ 9 → M' 75 24 = kAt (M 78) n b - 7)) ∧ N = N') := by
  refine ⟨xe_123, m_123, Nat.le_of_ble_eq_true rfl, ?_⟩
  have n160 := ht.1
  have hbb := scE_in (P := isB) (T := M 78) hq.2
  rw [show scE isB (M 78) n q = b from hb.symm] at hbb
  have hb0 : 0 ≤ b := by omega
  have hT : b < n → 0 ≤ M 78 b ∧ M 78 b ≤ 255 := fun h => ht.2 b hb0 h
  have e0 : yu M 75 21 q = M := by rw [← h4]; exact yu_self
  have k := @m_nx_b S 2 n M N (fun r M' N' => none = r ∧ ((∀ c, c ≠ 75 → M' c = M c) ∧ (∀ k, k < 21 ∨ 24 < k → M' 75 k = M 75 k) ∧ M' 75 22 = b ∧ M' 75 21 = eAt (M 78) n b ∧ M' 75 23 = mTok (kAt (M 78) n b) ∧ (kAt (M 78) n b = 2 ∨ kAt (M 78) n b = 3 → M' 75 24 = vAt (M 78) n b) ∧ (7 ≤ kAt (M 78) n b ∧ kAt (M 78) n b ≤ 9 → M' 75 24 = kAt (M 78) n b - 7)) ∧ N = N') ht hn (n - q).toNat q hq.1 (by omega)
  rw [e0] at k
  refine k ?_
  rw [show scn isB (M 78) n (n - q).toNat q = b from hb.symm]
  refine r_run 10 (pc' := 70) (ls' := [some (yr 75), none, none]) (st' := []) (M' := (yu (yu (yu (yu M 75 21 b) 75 22 b) 75 23 0) 75 24 0)) (N' := N) rfl ?_
  generalize hM2 : (yu (yu (yu (yu M 75 21 b) 75 22 b) 75 23 0) 75 24 0) = M2
  have g0 : ∀ c, c ≠ 75 → M2 c = M c := fun c hc => by rw [← hM2, yu_rn hc, yu_rn hc, yu_rn hc, yu_rn hc]
  have g1 : ∀ k, k < 21 ∨ 24 < k → M2 75 k = M 75 k := fun k hk => by rw [← hM2, yu_ne (by omega), yu_ne (by omega), yu_ne (by omega), yu_ne (by omega)]
  have g21 : M2 75 21 = b := by rw [← hM2, yu_ne (by decide), yu_ne (by decide), yu_ne (by decide), yu_at]
  have g22 : M2 75 22 = b := by rw [← hM2, yu_ne (by decide), yu_ne (by decide), yu_at]
  have g23 : M2 75 23 = 0 := by rw [← hM2, yu_ne (by decide), yu_at]
  have g24 : M2 75 24 = 0 := by rw [← hM2, yu_at]
  have g78 : M2 78 = M 78 := g0 78 (by decide)
  have g6 : M2 75 6 = n := by rw [g1 6 (by decide)]; exact hn
  have gT : M2 78 (M2 75 21) = M 78 b := by rw [g21, g78]
  refine r_run 4 (pc' := 78) (ls' := [some (yr 75), none, none]) (st' := [yi (M2 75 6), yi (M2 75 21)]) (M' := M2) (N' := N) rfl ?_
  refine r_icmp_ne (pc := 78) f_123_78 (by omega) (by omega) (fun h78 => ?_) (fun h78 => ?_)
  · refine r_run 4 (pc' := 90) (ls' := [some (yr 75), none, none]) (st' := [yi (M2 75 21), yr 78]) (M' := M2) (N' := N) rfl ?_
    refine r_iald (n := 160) f_123_90 (by decide) (by decide) (by decide) (by omega) ?_
    refine r_run 4 (pc' := 97) (ls' := [some (yr 75), some (yi (M2 78 (M2 75 21))), none]) (st' := [yi 122, yi 97, yi (M2 78 (M2 75 21))]) (M' := M2) (N' := N) rfl ?_
    refine r_static (mj := 112) (as := [yi (M2 78 (M2 75 21)), yi 97, yi 122]) (rest := []) f_123_97 (by decide) rfl m_112 rfl rfl rfl (Nat.le_of_ble_eq_true rfl) (by omega) (m_in (by omega) (by omega) (by omega)) ?_
    rintro _ _ _ ⟨v97, rfl, hv97, rfl, rfl⟩
    refine r_if_eq (pc := 100) f_123_100 (by omega) (fun h100 => ?_) (fun h100 => ?_)
    · refine r_run 3 (pc' := 222) (ls' := [some (yr 75), some (yi (M2 78 (M2 75 21))), none]) (st' := [yi 57, yi 48, yi (M2 78 (M2 75 21))]) (M' := M2) (N' := N) rfl ?_
      refine r_static (mj := 112) (as := [yi (M2 78 (M2 75 21)), yi 48, yi 57]) (rest := []) f_123_222 (by decide) rfl m_112 rfl rfl rfl (Nat.le_of_ble_eq_true rfl) (by omega) (m_in (by omega) (by omega) (by omega)) ?_
      rintro _ _ _ ⟨v222, rfl, hv222, rfl, rfl⟩
      refine r_if_eq (pc := 225) f_123_225 (by omega) (fun h225 => ?_) (fun h225 => ?_)
      · refine r_run 2 (pc' := 329) (ls' := [some (yr 75), some (yi (M2 78 (M2 75 21))), none]) (st' := [yi 40, yi (M2 78 (M2 75 21))]) (M' := M2) (N' := N) rfl ?_
        refine r_icmp_eq (pc := 329) f_123_329 (by omega) (by omega) (fun h329 => ?_) (fun h329 => ?_)
        · refine r_run 5 (pc' := 382) (ls' := [some (yr 75), some (yi (M2 78 (M2 75 21))), some (yi 1)]) (st' := [yi 1, yr 75]) (M' := M2) (N' := N) rfl ?_
          refine r_if_eq (pc := 382) f_123_382 (by omega) (fun h382 => ?_) (fun h382 => ?_)
          · refine r_run 8 (pc' := 403) (ls' := [some (yr 75), some (yi (M2 78 (M2 75 21))), some (yi 1)]) (st' := []) (M' := (yu (yu M2 75 23 (-1)) 75 21 ((M2 75 21) + 1))) (N' := N) rfl ?_
            refine r_vret m_123 rfl f_123_403 ?_
            have nl := isL_no (x := M 78 b) (by omega)
            have nd := isD_no (x := M 78 b) (by omega)
            have hk : kAt (M 78) n b = 1 := by
              unfold kAt; rw [if_neg (by omega), if_neg (by rw [nl]; decide), if_neg (by rw [nd]; decide), pif_no (by unfold isSg; omega)]
            have hsg : isSg (M 78 b) → 39 < M 78 b := by unfold isSg; omega
            refine ⟨rfl, ⟨fun c hc => by rw [yu_rn hc, yu_rn hc, g0 c hc], fun k hk => by rw [yu_ne (by omega), yu_ne (by omega), g1 k hk], by rw [yu_ne (by decide), yu_ne (by decide), g22], ?_, ?_, fun h => ?_, fun h => ?_⟩, rfl⟩
            · unfold eAt; rw [if_neg (by omega), if_neg (by rw [nl]; decide), if_neg (by rw [nd]; decide), yu_at, g21]
            · rw [hk, yu_ne (by decide), yu_at]; rfl
            · exfalso; rw [hk] at h; omega
            · exfalso; rw [hk] at h; omega
          · refine r_run 9 (pc' := 403) (ls' := [some (yr 75), some (yi (M2 78 (M2 75 21))), some (yi 1)]) (st' := []) (M' := (yu (yu M2 75 23 (M2 78 (M2 75 21))) 75 21 ((M2 75 21) + 1))) (N' := N) rfl ?_
            refine r_vret m_123 rfl f_123_403 ?_
            have nl := isL_no (x := M 78 b) (by omega)
            have nd := isD_no (x := M 78 b) (by omega)
            have hk : kAt (M 78) n b = M 78 b := by
              unfold kAt; rw [if_neg (by omega), if_neg (by rw [nl]; decide), if_neg (by rw [nd]; decide), pif_yes (by unfold isSg; omega)]
            have hsg : isSg (M 78 b) → 39 < M 78 b := by unfold isSg; omega
            refine ⟨rfl, ⟨fun c hc => by rw [yu_rn hc, yu_rn hc, g0 c hc], fun k hk => by rw [yu_ne (by omega), yu_ne (by omega), g1 k hk], by rw [yu_ne (by decide), yu_ne (by decide), g22], ?_, ?_, fun h => ?_, fun h => ?_⟩, rfl⟩
            · unfold eAt; rw [if_neg (by omega), if_neg (by rw [nl]; decide), if_neg (by rw [nd]; decide), yu_at, g21]
            · rw [hk, yu_ne (by decide), yu_at]; unfold mTok; rw [if_neg (by omega), if_neg (by omega), if_neg (by omega), if_neg (by omega)]; exact gT
            · exfalso; rw [hk] at h; omega
            · exfalso; rw [hk] at h; omega
        · refine r_run 2 (pc' := 335) (ls' := [some (yr 75), some (yi (M2 78 (M2 75 21))), none]) (st' := [yi 41, yi (M2 78 (M2 75 21))]) (M' := M2) (N' := N) rfl ?_
          refine r_icmp_eq (pc := 335) f_123_335 (by omega) (by omega) (fun h335 => ?_) (fun h335 => ?_)
          · refine r_run 5 (pc' := 382) (ls' := [some (yr 75), some (yi (M2 78 (M2 75 21))), some (yi 1)]) (st' := [yi 1, yr 75]) (M' := M2) (N' := N) rfl ?_
            refine r_if_eq (pc := 382) f_123_382 (by omega) (fun h382 => ?_) (fun h382 => ?_)
            · refine r_run 8 (pc' := 403) (ls' := [some (yr 75), some (yi (M2 78 (M2 75 21))), some (yi 1)]) (st' := []) (M' := (yu (yu M2 75 23 (-1)) 75 21 ((M2 75 21) + 1))) (N' := N) rfl ?_
              refine r_vret m_123 rfl f_123_403 ?_
              have nl := isL_no (x := M 78 b) (by omega)
              have nd := isD_no (x := M 78 b) (by omega)
              have hk : kAt (M 78) n b = 1 := by
                unfold kAt; rw [if_neg (by omega), if_neg (by rw [nl]; decide), if_neg (by rw [nd]; decide), pif_no (by unfold isSg; omega)]
              have hsg : isSg (M 78 b) → 39 < M 78 b := by unfold isSg; omega
              refine ⟨rfl, ⟨fun c hc => by rw [yu_rn hc, yu_rn hc, g0 c hc], fun k hk => by rw [yu_ne (by omega), yu_ne (by omega), g1 k hk], by rw [yu_ne (by decide), yu_ne (by decide), g22], ?_, ?_, fun h => ?_, fun h => ?_⟩, rfl⟩
              · unfold eAt; rw [if_neg (by omega), if_neg (by rw [nl]; decide), if_neg (by rw [nd]; decide), yu_at, g21]
              · rw [hk, yu_ne (by decide), yu_at]; rfl
              · exfalso; rw [hk] at h; omega
              · exfalso; rw [hk] at h; omega
            · refine r_run 9 (pc' := 403) (ls' := [some (yr 75), some (yi (M2 78 (M2 75 21))), some (yi 1)]) (st' := []) (M' := (yu (yu M2 75 23 (M2 78 (M2 75 21))) 75 21 ((M2 75 21) + 1))) (N' := N) rfl ?_
              refine r_vret m_123 rfl f_123_403 ?_
              have nl := isL_no (x := M 78 b) (by omega)
              have nd := isD_no (x := M 78 b) (by omega)
              have hk : kAt (M 78) n b = M 78 b := by
                unfold kAt; rw [if_neg (by omega), if_neg (by rw [nl]; decide), if_neg (by rw [nd]; decide), pif_yes (by unfold isSg; omega)]
              have hsg : isSg (M 78 b) → 39 < M 78 b := by unfold isSg; omega
              refine ⟨rfl, ⟨fun c hc => by rw [yu_rn hc, yu_rn hc, g0 c hc], fun k hk => by rw [yu_ne (by omega), yu_ne (by omega), g1 k hk], by rw [yu_ne (by decide), yu_ne (by decide), g22], ?_, ?_, fun h => ?_, fun h => ?_⟩, rfl⟩
              · unfold eAt; rw [if_neg (by omega), if_neg (by rw [nl]; decide), if_neg (by rw [nd]; decide), yu_at, g21]
              · rw [hk, yu_ne (by decide), yu_at]; unfold mTok; rw [if_neg (by omega), if_neg (by omega), if_neg (by omega), if_neg (by omega)]; exact gT
              · exfalso; rw [hk] at h; omega
              · exfalso; rw [hk] at h; omega
          · refine r_run 2 (pc' := 341) (ls' := [some (yr 75), some (yi (M2 78 (M2 75 21))), none]) (st' := [yi 59, yi (M2 78 (M2 75 21))]) (M' := M2) (N' := N) rfl ?_
            refine r_icmp_eq (pc := 341) f_123_341 (by omega) (by omega) (fun h341 => ?_) (fun h341 => ?_)
            · refine r_run 5 (pc' := 382) (ls' := [some (yr 75), some (yi (M2 78 (M2 75 21))), some (yi 1)]) (st' := [yi 1, yr 75]) (M' := M2) (N' := N) rfl ?_
              refine r_if_eq (pc := 382) f_123_382 (by omega) (fun h382 => ?_) (fun h382 => ?_)
              · refine r_run 8 (pc' := 403) (ls' := [some (yr 75), some (yi (M2 78 (M2 75 21))), some (yi 1)]) (st' := []) (M' := (yu (yu M2 75 23 (-1)) 75 21 ((M2 75 21) + 1))) (N' := N) rfl ?_
                refine r_vret m_123 rfl f_123_403 ?_
                have nl := isL_no (x := M 78 b) (by omega)
                have nd := isD_no (x := M 78 b) (by omega)
                have hk : kAt (M 78) n b = 1 := by
                  unfold kAt; rw [if_neg (by omega), if_neg (by rw [nl]; decide), if_neg (by rw [nd]; decide), pif_no (by unfold isSg; omega)]
                have hsg : isSg (M 78 b) → 39 < M 78 b := by unfold isSg; omega
                refine ⟨rfl, ⟨fun c hc => by rw [yu_rn hc, yu_rn hc, g0 c hc], fun k hk => by rw [yu_ne (by omega), yu_ne (by omega), g1 k hk], by rw [yu_ne (by decide), yu_ne (by decide), g22], ?_, ?_, fun h => ?_, fun h => ?_⟩, rfl⟩
                · unfold eAt; rw [if_neg (by omega), if_neg (by rw [nl]; decide), if_neg (by rw [nd]; decide), yu_at, g21]
                · rw [hk, yu_ne (by decide), yu_at]; rfl
                · exfalso; rw [hk] at h; omega
                · exfalso; rw [hk] at h; omega
              · refine r_run 9 (pc' := 403) (ls' := [some (yr 75), some (yi (M2 78 (M2 75 21))), some (yi 1)]) (st' := []) (M' := (yu (yu M2 75 23 (M2 78 (M2 75 21))) 75 21 ((M2 75 21) + 1))) (N' := N) rfl ?_
                refine r_vret m_123 rfl f_123_403 ?_
                have nl := isL_no (x := M 78 b) (by omega)
                have nd := isD_no (x := M 78 b) (by omega)
                have hk : kAt (M 78) n b = M 78 b := by
                  unfold kAt; rw [if_neg (by omega), if_neg (by rw [nl]; decide), if_neg (by rw [nd]; decide), pif_yes (by unfold isSg; omega)]
                have hsg : isSg (M 78 b) → 39 < M 78 b := by unfold isSg; omega
                refine ⟨rfl, ⟨fun c hc => by rw [yu_rn hc, yu_rn hc, g0 c hc], fun k hk => by rw [yu_ne (by omega), yu_ne (by omega), g1 k hk], by rw [yu_ne (by decide), yu_ne (by decide), g22], ?_, ?_, fun h => ?_, fun h => ?_⟩, rfl⟩
                · unfold eAt; rw [if_neg (by omega), if_neg (by rw [nl]; decide), if_neg (by rw [nd]; decide), yu_at, g21]
                · rw [hk, yu_ne (by decide), yu_at]; unfold mTok; rw [if_neg (by omega), if_neg (by omega), if_neg (by omega), if_neg (by omega)]; exact gT
                · exfalso; rw [hk] at h; omega
                · exfalso; rw [hk] at h; omega
            · refine r_run 2 (pc' := 347) (ls' := [some (yr 75), some (yi (M2 78 (M2 75 21))), none]) (st' := [yi 43, yi (M2 78 (M2 75 21))]) (M' := M2) (N' := N) rfl ?_
              refine r_icmp_eq (pc := 347) f_123_347 (by omega) (by omega) (fun h347 => ?_) (fun h347 => ?_)
              · refine r_run 5 (pc' := 382) (ls' := [some (yr 75), some (yi (M2 78 (M2 75 21))), some (yi 1)]) (st' := [yi 1, yr 75]) (M' := M2) (N' := N) rfl ?_
                refine r_if_eq (pc := 382) f_123_382 (by omega) (fun h382 => ?_) (fun h382 => ?_)
                · refine r_run 8 (pc' := 403) (ls' := [some (yr 75), some (yi (M2 78 (M2 75 21))), some (yi 1)]) (st' := []) (M' := (yu (yu M2 75 23 (-1)) 75 21 ((M2 75 21) + 1))) (N' := N) rfl ?_
                  refine r_vret m_123 rfl f_123_403 ?_
                  have nl := isL_no (x := M 78 b) (by omega)
                  have nd := isD_no (x := M 78 b) (by omega)
                  have hk : kAt (M 78) n b = 1 := by
                    unfold kAt; rw [if_neg (by omega), if_neg (by rw [nl]; decide), if_neg (by rw [nd]; decide), pif_no (by unfold isSg; omega)]
                  have hsg : isSg (M 78 b) → 39 < M 78 b := by unfold isSg; omega
                  refine ⟨rfl, ⟨fun c hc => by rw [yu_rn hc, yu_rn hc, g0 c hc], fun k hk => by rw [yu_ne (by omega), yu_ne (by omega), g1 k hk], by rw [yu_ne (by decide), yu_ne (by decide), g22], ?_, ?_, fun h => ?_, fun h => ?_⟩, rfl⟩
                  · unfold eAt; rw [if_neg (by omega), if_neg (by rw [nl]; decide), if_neg (by rw [nd]; decide), yu_at, g21]
                  · rw [hk, yu_ne (by decide), yu_at]; rfl
                  · exfalso; rw [hk] at h; omega
                  · exfalso; rw [hk] at h; omega
                · refine r_run 9 (pc' := 403) (ls' := [some (yr 75), some (yi (M2 78 (M2 75 21))), some (yi 1)]) (st' := []) (M' := (yu (yu M2 75 23 (M2 78 (M2 75 21))) 75 21 ((M2 75 21) + 1))) (N' := N) rfl ?_
                  refine r_vret m_123 rfl f_123_403 ?_
                  have nl := isL_no (x := M 78 b) (by omega)
                  have nd := isD_no (x := M 78 b) (by omega)
                  have hk : kAt (M 78) n b = M 78 b := by
                    unfold kAt; rw [if_neg (by omega), if_neg (by rw [nl]; decide), if_neg (by rw [nd]; decide), pif_yes (by unfold isSg; omega)]
                  have hsg : isSg (M 78 b) → 39 < M 78 b := by unfold isSg; omega
                  refine ⟨rfl, ⟨fun c hc => by rw [yu_rn hc, yu_rn hc, g0 c hc], fun k hk => by rw [yu_ne (by omega), yu_ne (by omega), g1 k hk], by rw [yu_ne (by decide), yu_ne (by decide), g22], ?_, ?_, fun h => ?_, fun h => ?_⟩, rfl⟩
                  · unfold eAt; rw [if_neg (by omega), if_neg (by rw [nl]; decide), if_neg (by rw [nd]; decide), yu_at, g21]
                  · rw [hk, yu_ne (by decide), yu_at]; unfold mTok; rw [if_neg (by omega), if_neg (by omega), if_neg (by omega), if_neg (by omega)]; exact gT
                  · exfalso; rw [hk] at h; omega
                  · exfalso; rw [hk] at h; omega
              · refine r_run 2 (pc' := 353) (ls' := [some (yr 75), some (yi (M2 78 (M2 75 21))), none]) (st' := [yi 45, yi (M2 78 (M2 75 21))]) (M' := M2) (N' := N) rfl ?_
                refine r_icmp_eq (pc := 353) f_123_353 (by omega) (by omega) (fun h353 => ?_) (fun h353 => ?_)
                · refine r_run 5 (pc' := 382) (ls' := [some (yr 75), some (yi (M2 78 (M2 75 21))), some (yi 1)]) (st' := [yi 1, yr 75]) (M' := M2) (N' := N) rfl ?_
                  refine r_if_eq (pc := 382) f_123_382 (by omega) (fun h382 => ?_) (fun h382 => ?_)
                  · refine r_run 8 (pc' := 403) (ls' := [some (yr 75), some (yi (M2 78 (M2 75 21))), some (yi 1)]) (st' := []) (M' := (yu (yu M2 75 23 (-1)) 75 21 ((M2 75 21) + 1))) (N' := N) rfl ?_
                    refine r_vret m_123 rfl f_123_403 ?_
                    have nl := isL_no (x := M 78 b) (by omega)
                    have nd := isD_no (x := M 78 b) (by omega)
                    have hk : kAt (M 78) n b = 1 := by
                      unfold kAt; rw [if_neg (by omega), if_neg (by rw [nl]; decide), if_neg (by rw [nd]; decide), pif_no (by unfold isSg; omega)]
                    have hsg : isSg (M 78 b) → 39 < M 78 b := by unfold isSg; omega
                    refine ⟨rfl, ⟨fun c hc => by rw [yu_rn hc, yu_rn hc, g0 c hc], fun k hk => by rw [yu_ne (by omega), yu_ne (by omega), g1 k hk], by rw [yu_ne (by decide), yu_ne (by decide), g22], ?_, ?_, fun h => ?_, fun h => ?_⟩, rfl⟩
                    · unfold eAt; rw [if_neg (by omega), if_neg (by rw [nl]; decide), if_neg (by rw [nd]; decide), yu_at, g21]
                    · rw [hk, yu_ne (by decide), yu_at]; rfl
                    · exfalso; rw [hk] at h; omega
                    · exfalso; rw [hk] at h; omega
                  · refine r_run 9 (pc' := 403) (ls' := [some (yr 75), some (yi (M2 78 (M2 75 21))), some (yi 1)]) (st' := []) (M' := (yu (yu M2 75 23 (M2 78 (M2 75 21))) 75 21 ((M2 75 21) + 1))) (N' := N) rfl ?_
                    refine r_vret m_123 rfl f_123_403 ?_
                    have nl := isL_no (x := M 78 b) (by omega)
                    have nd := isD_no (x := M 78 b) (by omega)
                    have hk : kAt (M 78) n b = M 78 b := by
                      unfold kAt; rw [if_neg (by omega), if_neg (by rw [nl]; decide), if_neg (by rw [nd]; decide), pif_yes (by unfold isSg; omega)]
                    have hsg : isSg (M 78 b) → 39 < M 78 b := by unfold isSg; omega
                    refine ⟨rfl, ⟨fun c hc => by rw [yu_rn hc, yu_rn hc, g0 c hc], fun k hk => by rw [yu_ne (by omega), yu_ne (by omega), g1 k hk], by rw [yu_ne (by decide), yu_ne (by decide), g22], ?_, ?_, fun h => ?_, fun h => ?_⟩, rfl⟩
                    · unfold eAt; rw [if_neg (by omega), if_neg (by rw [nl]; decide), if_neg (by rw [nd]; decide), yu_at, g21]
                    · rw [hk, yu_ne (by decide), yu_at]; unfold mTok; rw [if_neg (by omega), if_neg (by omega), if_neg (by omega), if_neg (by omega)]; exact gT
                    · exfalso; rw [hk] at h; omega
                    · exfalso; rw [hk] at h; omega
                · refine r_run 2 (pc' := 359) (ls' := [some (yr 75), some (yi (M2 78 (M2 75 21))), none]) (st' := [yi 42, yi (M2 78 (M2 75 21))]) (M' := M2) (N' := N) rfl ?_
                  refine r_icmp_eq (pc := 359) f_123_359 (by omega) (by omega) (fun h359 => ?_) (fun h359 => ?_)
                  · refine r_run 5 (pc' := 382) (ls' := [some (yr 75), some (yi (M2 78 (M2 75 21))), some (yi 1)]) (st' := [yi 1, yr 75]) (M' := M2) (N' := N) rfl ?_
                    refine r_if_eq (pc := 382) f_123_382 (by omega) (fun h382 => ?_) (fun h382 => ?_)
                    · refine r_run 8 (pc' := 403) (ls' := [some (yr 75), some (yi (M2 78 (M2 75 21))), some (yi 1)]) (st' := []) (M' := (yu (yu M2 75 23 (-1)) 75 21 ((M2 75 21) + 1))) (N' := N) rfl ?_
                      refine r_vret m_123 rfl f_123_403 ?_
                      have nl := isL_no (x := M 78 b) (by omega)
                      have nd := isD_no (x := M 78 b) (by omega)
                      have hk : kAt (M 78) n b = 1 := by
                        unfold kAt; rw [if_neg (by omega), if_neg (by rw [nl]; decide), if_neg (by rw [nd]; decide), pif_no (by unfold isSg; omega)]
                      have hsg : isSg (M 78 b) → 39 < M 78 b := by unfold isSg; omega
                      refine ⟨rfl, ⟨fun c hc => by rw [yu_rn hc, yu_rn hc, g0 c hc], fun k hk => by rw [yu_ne (by omega), yu_ne (by omega), g1 k hk], by rw [yu_ne (by decide), yu_ne (by decide), g22], ?_, ?_, fun h => ?_, fun h => ?_⟩, rfl⟩
                      · unfold eAt; rw [if_neg (by omega), if_neg (by rw [nl]; decide), if_neg (by rw [nd]; decide), yu_at, g21]
                      · rw [hk, yu_ne (by decide), yu_at]; rfl
                      · exfalso; rw [hk] at h; omega
                      · exfalso; rw [hk] at h; omega
                    · refine r_run 9 (pc' := 403) (ls' := [some (yr 75), some (yi (M2 78 (M2 75 21))), some (yi 1)]) (st' := []) (M' := (yu (yu M2 75 23 (M2 78 (M2 75 21))) 75 21 ((M2 75 21) + 1))) (N' := N) rfl ?_
                      refine r_vret m_123 rfl f_123_403 ?_
                      have nl := isL_no (x := M 78 b) (by omega)
                      have nd := isD_no (x := M 78 b) (by omega)
                      have hk : kAt (M 78) n b = M 78 b := by
                        unfold kAt; rw [if_neg (by omega), if_neg (by rw [nl]; decide), if_neg (by rw [nd]; decide), pif_yes (by unfold isSg; omega)]
                      have hsg : isSg (M 78 b) → 39 < M 78 b := by unfold isSg; omega
                      refine ⟨rfl, ⟨fun c hc => by rw [yu_rn hc, yu_rn hc, g0 c hc], fun k hk => by rw [yu_ne (by omega), yu_ne (by omega), g1 k hk], by rw [yu_ne (by decide), yu_ne (by decide), g22], ?_, ?_, fun h => ?_, fun h => ?_⟩, rfl⟩
                      · unfold eAt; rw [if_neg (by omega), if_neg (by rw [nl]; decide), if_neg (by rw [nd]; decide), yu_at, g21]
                      · rw [hk, yu_ne (by decide), yu_at]; unfold mTok; rw [if_neg (by omega), if_neg (by omega), if_neg (by omega), if_neg (by omega)]; exact gT
                      · exfalso; rw [hk] at h; omega
                      · exfalso; rw [hk] at h; omega
                  · refine r_run 2 (pc' := 365) (ls' := [some (yr 75), some (yi (M2 78 (M2 75 21))), none]) (st' := [yi 60, yi (M2 78 (M2 75 21))]) (M' := M2) (N' := N) rfl ?_
                    refine r_icmp_eq (pc := 365) f_123_365 (by omega) (by omega) (fun h365 => ?_) (fun h365 => ?_)
                    · refine r_run 5 (pc' := 382) (ls' := [some (yr 75), some (yi (M2 78 (M2 75 21))), some (yi 1)]) (st' := [yi 1, yr 75]) (M' := M2) (N' := N) rfl ?_
                      refine r_if_eq (pc := 382) f_123_382 (by omega) (fun h382 => ?_) (fun h382 => ?_)
                      · refine r_run 8 (pc' := 403) (ls' := [some (yr 75), some (yi (M2 78 (M2 75 21))), some (yi 1)]) (st' := []) (M' := (yu (yu M2 75 23 (-1)) 75 21 ((M2 75 21) + 1))) (N' := N) rfl ?_
                        refine r_vret m_123 rfl f_123_403 ?_
                        have nl := isL_no (x := M 78 b) (by omega)
                        have nd := isD_no (x := M 78 b) (by omega)
                        have hk : kAt (M 78) n b = 1 := by
                          unfold kAt; rw [if_neg (by omega), if_neg (by rw [nl]; decide), if_neg (by rw [nd]; decide), pif_no (by unfold isSg; omega)]
                        have hsg : isSg (M 78 b) → 39 < M 78 b := by unfold isSg; omega
                        refine ⟨rfl, ⟨fun c hc => by rw [yu_rn hc, yu_rn hc, g0 c hc], fun k hk => by rw [yu_ne (by omega), yu_ne (by omega), g1 k hk], by rw [yu_ne (by decide), yu_ne (by decide), g22], ?_, ?_, fun h => ?_, fun h => ?_⟩, rfl⟩
                        · unfold eAt; rw [if_neg (by omega), if_neg (by rw [nl]; decide), if_neg (by rw [nd]; decide), yu_at, g21]
                        · rw [hk, yu_ne (by decide), yu_at]; rfl
                        · exfalso; rw [hk] at h; omega
                        · exfalso; rw [hk] at h; omega
                      · refine r_run 9 (pc' := 403) (ls' := [some (yr 75), some (yi (M2 78 (M2 75 21))), some (yi 1)]) (st' := []) (M' := (yu (yu M2 75 23 (M2 78 (M2 75 21))) 75 21 ((M2 75 21) + 1))) (N' := N) rfl ?_
                        refine r_vret m_123 rfl f_123_403 ?_
                        have nl := isL_no (x := M 78 b) (by omega)
                        have nd := isD_no (x := M 78 b) (by omega)
                        have hk : kAt (M 78) n b = M 78 b := by
                          unfold kAt; rw [if_neg (by omega), if_neg (by rw [nl]; decide), if_neg (by rw [nd]; decide), pif_yes (by unfold isSg; omega)]
                        have hsg : isSg (M 78 b) → 39 < M 78 b := by unfold isSg; omega
                        refine ⟨rfl, ⟨fun c hc => by rw [yu_rn hc, yu_rn hc, g0 c hc], fun k hk => by rw [yu_ne (by omega), yu_ne (by omega), g1 k hk], by rw [yu_ne (by decide), yu_ne (by decide), g22], ?_, ?_, fun h => ?_, fun h => ?_⟩, rfl⟩
                        · unfold eAt; rw [if_neg (by omega), if_neg (by rw [nl]; decide), if_neg (by rw [nd]; decide), yu_at, g21]
                        · rw [hk, yu_ne (by decide), yu_at]; unfold mTok; rw [if_neg (by omega), if_neg (by omega), if_neg (by omega), if_neg (by omega)]; exact gT
                        · exfalso; rw [hk] at h; omega
                        · exfalso; rw [hk] at h; omega
                    · refine r_run 2 (pc' := 371) (ls' := [some (yr 75), some (yi (M2 78 (M2 75 21))), none]) (st' := [yi 61, yi (M2 78 (M2 75 21))]) (M' := M2) (N' := N) rfl ?_
                      refine r_icmp_ne (pc := 371) f_123_371 (by omega) (by omega) (fun h371 => ?_) (fun h371 => ?_)
                      · refine r_run 4 (pc' := 382) (ls' := [some (yr 75), some (yi (M2 78 (M2 75 21))), some (yi 0)]) (st' := [yi 0, yr 75]) (M' := M2) (N' := N) rfl ?_
                        refine r_if_eq (pc := 382) f_123_382 (by omega) (fun h382 => ?_) (fun h382 => ?_)
                        · refine r_run 8 (pc' := 403) (ls' := [some (yr 75), some (yi (M2 78 (M2 75 21))), some (yi 0)]) (st' := []) (M' := (yu (yu M2 75 23 (-1)) 75 21 ((M2 75 21) + 1))) (N' := N) rfl ?_
                          refine r_vret m_123 rfl f_123_403 ?_
                          have nl := isL_no (x := M 78 b) (by omega)
                          have nd := isD_no (x := M 78 b) (by omega)
                          have hk : kAt (M 78) n b = 1 := by
                            unfold kAt; rw [if_neg (by omega), if_neg (by rw [nl]; decide), if_neg (by rw [nd]; decide), pif_no (by unfold isSg; omega)]
                          have hsg : isSg (M 78 b) → 39 < M 78 b := by unfold isSg; omega
                          refine ⟨rfl, ⟨fun c hc => by rw [yu_rn hc, yu_rn hc, g0 c hc], fun k hk => by rw [yu_ne (by omega), yu_ne (by omega), g1 k hk], by rw [yu_ne (by decide), yu_ne (by decide), g22], ?_, ?_, fun h => ?_, fun h => ?_⟩, rfl⟩
                          · unfold eAt; rw [if_neg (by omega), if_neg (by rw [nl]; decide), if_neg (by rw [nd]; decide), yu_at, g21]
                          · rw [hk, yu_ne (by decide), yu_at]; rfl
                          · exfalso; rw [hk] at h; omega
                          · exfalso; rw [hk] at h; omega
                        · refine r_run 9 (pc' := 403) (ls' := [some (yr 75), some (yi (M2 78 (M2 75 21))), some (yi 0)]) (st' := []) (M' := (yu (yu M2 75 23 (M2 78 (M2 75 21))) 75 21 ((M2 75 21) + 1))) (N' := N) rfl ?_
                          refine r_vret m_123 rfl f_123_403 ?_
                          have nl := isL_no (x := M 78 b) (by omega)
                          have nd := isD_no (x := M 78 b) (by omega)
                          have hk : kAt (M 78) n b = M 78 b := by
                            unfold kAt; rw [if_neg (by omega), if_neg (by rw [nl]; decide), if_neg (by rw [nd]; decide), pif_yes (by unfold isSg; omega)]
                          have hsg : isSg (M 78 b) → 39 < M 78 b := by unfold isSg; omega
                          refine ⟨rfl, ⟨fun c hc => by rw [yu_rn hc, yu_rn hc, g0 c hc], fun k hk => by rw [yu_ne (by omega), yu_ne (by omega), g1 k hk], by rw [yu_ne (by decide), yu_ne (by decide), g22], ?_, ?_, fun h => ?_, fun h => ?_⟩, rfl⟩
                          · unfold eAt; rw [if_neg (by omega), if_neg (by rw [nl]; decide), if_neg (by rw [nd]; decide), yu_at, g21]
                          · rw [hk, yu_ne (by decide), yu_at]; unfold mTok; rw [if_neg (by omega), if_neg (by omega), if_neg (by omega), if_neg (by omega)]; exact gT
                          · exfalso; rw [hk] at h; omega
                          · exfalso; rw [hk] at h; omega
                      · refine r_run 5 (pc' := 382) (ls' := [some (yr 75), some (yi (M2 78 (M2 75 21))), some (yi 1)]) (st' := [yi 1, yr 75]) (M' := M2) (N' := N) rfl ?_
                        refine r_if_eq (pc := 382) f_123_382 (by omega) (fun h382 => ?_) (fun h382 => ?_)
                        · refine r_run 8 (pc' := 403) (ls' := [some (yr 75), some (yi (M2 78 (M2 75 21))), some (yi 1)]) (st' := []) (M' := (yu (yu M2 75 23 (-1)) 75 21 ((M2 75 21) + 1))) (N' := N) rfl ?_
                          refine r_vret m_123 rfl f_123_403 ?_
                          have nl := isL_no (x := M 78 b) (by omega)
                          have nd := isD_no (x := M 78 b) (by omega)
                          have hk : kAt (M 78) n b = 1 := by
                            unfold kAt; rw [if_neg (by omega), if_neg (by rw [nl]; decide), if_neg (by rw [nd]; decide), pif_no (by unfold isSg; omega)]
                          have hsg : isSg (M 78 b) → 39 < M 78 b := by unfold isSg; omega
                          refine ⟨rfl, ⟨fun c hc => by rw [yu_rn hc, yu_rn hc, g0 c hc], fun k hk => by rw [yu_ne (by omega), yu_ne (by omega), g1 k hk], by rw [yu_ne (by decide), yu_ne (by decide), g22], ?_, ?_, fun h => ?_, fun h => ?_⟩, rfl⟩
                          · unfold eAt; rw [if_neg (by omega), if_neg (by rw [nl]; decide), if_neg (by rw [nd]; decide), yu_at, g21]
                          · rw [hk, yu_ne (by decide), yu_at]; rfl
                          · exfalso; rw [hk] at h; omega
                          · exfalso; rw [hk] at h; omega
                        · refine r_run 9 (pc' := 403) (ls' := [some (yr 75), some (yi (M2 78 (M2 75 21))), some (yi 1)]) (st' := []) (M' := (yu (yu M2 75 23 (M2 78 (M2 75 21))) 75 21 ((M2 75 21) + 1))) (N' := N) rfl ?_
                          refine r_vret m_123 rfl f_123_403 ?_
                          have nl := isL_no (x := M 78 b) (by omega)
                          have nd := isD_no (x := M 78 b) (by omega)
                          have hk : kAt (M 78) n b = M 78 b := by
                            unfold kAt; rw [if_neg (by omega), if_neg (by rw [nl]; decide), if_neg (by rw [nd]; decide), pif_yes (by unfold isSg; omega)]
                          have hsg : isSg (M 78 b) → 39 < M 78 b := by unfold isSg; omega
                          refine ⟨rfl, ⟨fun c hc => by rw [yu_rn hc, yu_rn hc, g0 c hc], fun k hk => by rw [yu_ne (by omega), yu_ne (by omega), g1 k hk], by rw [yu_ne (by decide), yu_ne (by decide), g22], ?_, ?_, fun h => ?_, fun h => ?_⟩, rfl⟩
                          · unfold eAt; rw [if_neg (by omega), if_neg (by rw [nl]; decide), if_neg (by rw [nd]; decide), yu_at, g21]
                          · rw [hk, yu_ne (by decide), yu_at]; unfold mTok; rw [if_neg (by omega), if_neg (by omega), if_neg (by omega), if_neg (by omega)]; exact gT
                          · exfalso; rw [hk] at h; omega
                          · exfalso; rw [hk] at h; omega
      · refine r_run 2 (pc' := 230) (ls' := [some (yr 75), some (yi (M2 78 (M2 75 21))), some (yi 0)]) (st' := []) (M' := M2) (N' := N) rfl ?_
        have he := scE_in (P := isD) (T := M 78) (show b ≤ n by omega)
        have e0 : yu (yu M2 75 24 0) 75 21 b = M2 := by
          have a : yu M2 75 24 0 = M2 := by rw [← g24]; exact yu_self
          rw [a, ← g21]; exact yu_self
        generalize M2 78 (M2 75 21) = cc at *
        have k := @m_nx_d S 2 n cc M2 N (fun r M' N' => none = r ∧ ((∀ c, c ≠ 75 → M' c = M c) ∧ (∀ k, k < 21 ∨ 24 < k → M' 75 k = M 75 k) ∧ M' 75 22 = b ∧ M' 75 21 = eAt (M 78) n b ∧ M' 75 23 = mTok (kAt (M 78) n b) ∧ (kAt (M 78) n b = 2 ∨ kAt (M 78) n b = 3 → M' 75 24 = vAt (M 78) n b) ∧ (7 ≤ kAt (M 78) n b ∧ kAt (M 78) n b ≤ 9 → M' 75 24 = kAt (M 78) n b - 7)) ∧ N = N') (by omega) (by rw [g78]; exact ht) g6 (n - b).toNat b 0 0 hb0 (by omega) (by omega)
        rw [e0, g78] at k
        refine k ?_
        show ry S 2 123 309 [some (yr 75), some (yi cc), some (yi (0 + (scE isD (M 78) n b - b)))] [] (yu (yu M2 75 24 (mv (M 78) (scE isD (M 78) n b - b).toNat 0 b 0)) 75 21 (scE isD (M 78) n b)) N _
        obtain ⟨e, hee⟩ : ∃ e, scE isD (M 78) n b = e := ⟨_, rfl⟩
        rw [hee] at he ⊢
        refine r_run 3 (pc' := 312) (ls' := [some (yr 75), some (yi cc), some (yi (0 + (e - b)))]) (st' := [yi 4, yi (0 + (e - b)), yr 75]) (M' := (yu (yu M2 75 24 (mv (M 78) (e - b).toNat 0 b 0)) 75 21 e)) (N' := N) rfl ?_
        refine r_icmp_le (pc := 312) f_123_312 (by omega) (by omega) (fun h312 => ?_) (fun h312 => ?_)
        · refine r_run 3 (pc' := 403) (ls' := [some (yr 75), some (yi cc), some (yi (0 + (e - b)))]) (st' := []) (M' := (yu (yu (yu M2 75 24 (mv (M 78) (e - b).toNat 0 b 0)) 75 21 e) 75 23 1)) (N' := N) rfl ?_
          refine r_vret m_123 rfl f_123_403 ?_
          have nl := isL_no (x := M 78 b) (by omega)
          have yd := isD_yes (x := M 78 b) (by omega)
          have hk : kAt (M 78) n b = 2 := by unfold kAt; rw [if_neg (by omega), if_neg (by rw [nl]; decide), if_pos yd, hee, if_neg (by omega)]
          refine ⟨rfl, ⟨fun c hc => by rw [yu_rn hc, yu_rn hc, yu_rn hc, g0 c hc], fun k hk => by rw [yu_ne (by omega), yu_ne (by omega), yu_ne (by omega), g1 k hk], by rw [yu_ne (by decide), yu_ne (by decide), yu_ne (by decide), g22], ?_, ?_, fun h => ?_, fun h => ?_⟩, rfl⟩
          · unfold eAt; rw [if_neg (by omega), if_neg (by rw [nl]; decide), if_pos yd, hee, yu_ne (by decide), yu_at]
          · rw [hk, yu_at]; rfl
          · rw [yu_ne (by decide), yu_ne (by decide), yu_at, mv_nv (by omega)]; unfold vAt; rw [if_neg (by rw [nl]; decide), hee]
          · exfalso; rw [hk] at h; omega
        · refine r_run 4 (pc' := 403) (ls' := [some (yr 75), some (yi cc), some (yi (0 + (e - b)))]) (st' := []) (M' := (yu (yu (yu M2 75 24 (mv (M 78) (e - b).toNat 0 b 0)) 75 21 e) 75 23 (-1))) (N' := N) rfl ?_
          refine r_vret m_123 rfl f_123_403 ?_
          have nl := isL_no (x := M 78 b) (by omega)
          have yd := isD_yes (x := M 78 b) (by omega)
          have hk : kAt (M 78) n b = 1 := by unfold kAt; rw [if_neg (by omega), if_neg (by rw [nl]; decide), if_pos yd, hee, if_pos (by omega)]
          refine ⟨rfl, ⟨fun c hc => by rw [yu_rn hc, yu_rn hc, yu_rn hc, g0 c hc], fun k hk => by rw [yu_ne (by omega), yu_ne (by omega), yu_ne (by omega), g1 k hk], by rw [yu_ne (by decide), yu_ne (by decide), yu_ne (by decide), g22], ?_, ?_, fun h => ?_, fun h => ?_⟩, rfl⟩
          · unfold eAt; rw [if_neg (by omega), if_neg (by rw [nl]; decide), if_pos yd, hee, yu_ne (by decide), yu_at]
          · rw [hk, yu_at]; rfl
          · exfalso; rw [hk] at h; omega
          · exfalso; rw [hk] at h; omega
    · have he := scE_in (P := isL) (T := M 78) (show b ≤ n by omega)
      have e0 : yu M2 75 21 b = M2 := by rw [← g21]; exact yu_self
      have yl := isL_yes (x := M 78 b) (by omega)
      generalize M2 78 (M2 75 21) = cc at *
      have k := @m_nx_w S 2 n cc M2 N (fun r M' N' => none = r ∧ ((∀ c, c ≠ 75 → M' c = M c) ∧ (∀ k, k < 21 ∨ 24 < k → M' 75 k = M 75 k) ∧ M' 75 22 = b ∧ M' 75 21 = eAt (M 78) n b ∧ M' 75 23 = mTok (kAt (M 78) n b) ∧ (kAt (M 78) n b = 2 ∨ kAt (M 78) n b = 3 → M' 75 24 = vAt (M 78) n b) ∧ (7 ≤ kAt (M 78) n b ∧ kAt (M 78) n b ≤ 9 → M' 75 24 = kAt (M 78) n b - 7)) ∧ N = N') (by omega) (by rw [g78]; exact ht) g6 (n - b).toNat b hb0 (by omega)
      rw [e0, g78] at k
      refine k ?_
      show ry S 2 123 146 [some (yr 75), some (yi cc), none] [] (yu M2 75 21 (scE isL (M 78) n b)) N _
      obtain ⟨e, hee⟩ : ∃ e, scE isL (M 78) n b = e := ⟨_, rfl⟩
      rw [hee] at he ⊢
      have hbe : b < e := by
        rcases he.2.2.2 with h | h
        · omega
        · by_cases g : b < e
          · exact g
          · rw [show e = b by omega, yl] at h; exact absurd h (by decide)
      generalize hM3 : yu M2 75 21 e = M3
      have q0 : ∀ c, c ≠ 75 → M3 c = M c := fun c hc => by rw [← hM3, yu_rn hc, g0 c hc]
      have q1 : ∀ k, k < 21 ∨ 24 < k → M3 75 k = M 75 k := fun k hk => by rw [← hM3, yu_ne (by omega), g1 k hk]
      have q21 : M3 75 21 = e := by rw [← hM3, yu_at]
      have q22 : M3 75 22 = b := by rw [← hM3, yu_ne (by decide), g22]
      have q78 : M3 78 = M 78 := q0 78 (by decide)
      refine r_run 5 (pc' := 155) (ls' := [some (yr 75), some (yi cc), none]) (st' := [yi (M3 75 21), yi (M3 75 22), yr 75]) (M' := M3) (N' := N) rfl ?_
      refine r_virtual (mj := 122) (b := 75) (as := [yi (M3 75 22), yi (M3 75 21)]) (rest := []) f_123_155 (by decide) rfl m_122 (by decide) (by decide) (by decide) rfl rfl (Nat.le_of_ble_eq_true rfl) (by omega) (m_wordFrom (n := n) (by rw [q78]; exact ht) (by intro k hk; rw [q0 86 (by decide)]; exact hW k hk) (by omega) (by omega) (by rw [q21, q22, q78]; exact he.2.2.1)) ?_
      rintro _ _ _ ⟨w, rfl, hw, rfl, rfl⟩
      rw [q21, q22, q78] at hw
      obtain ⟨w1, w2, w3, w4⟩ := wf_wk hw (by omega) he.2.2.1
      have hw0 := hw.1
      have hw12 := hw.2.1
      refine r_run 4 (pc' := 162) (ls' := [some (yr 75), some (yi cc), some (yi w)]) (st' := [yi 3, yi w, yr 75]) (M' := M3) (N' := N) rfl ?_
      refine r_icmp_ge (pc := 162) f_123_162 (by omega) (by omega) (fun h162 => ?_) (fun h162 => ?_)
      · refine r_run 2 (pc' := 172) (ls' := [some (yr 75), some (yi cc), some (yi w)]) (st' := [yi 9, yi w, yr 75]) (M' := M3) (N' := N) rfl ?_
        refine r_icmp_ge (pc := 172) f_123_172 (by omega) (by omega) (fun h172 => ?_) (fun h172 => ?_)
        · refine r_run 2 (pc' := 182) (ls' := [some (yr 75), some (yi cc), some (yi w)]) (st' := [yi 12, yi w, yr 75]) (M' := M3) (N' := N) rfl ?_
          refine r_icmp_ne (pc := 182) f_123_182 (by omega) (by omega) (fun h182 => ?_) (fun h182 => ?_)
          · refine r_run 9 (pc' := 201) (ls' := [some (yr 75), some (yi cc), some (yi w)]) (st' := [yi 3, yi w, yr 75]) (M' := (yu M3 75 23 ((4 + w) - 9))) (N' := N) rfl ?_
            refine r_icmp_ge (pc := 201) f_123_201 (by omega) (by omega) (fun h201 => ?_) (fun h201 => ?_)
            · refine r_run 5 (pc' := 403) (ls' := [some (yr 75), some (yi cc), some (yi w)]) (st' := []) (M' := (yu (yu M3 75 23 ((4 + w) - 9)) 75 24 (w - 3))) (N' := N) rfl ?_
              refine r_vret m_123 rfl f_123_403 ?_
              rw [if_neg (by omega), if_neg (by omega), if_neg (by omega)] at w1
              rw [if_neg (by omega)] at w2 w3
              have yl := isL_yes (x := M 78 b) (by omega)
              have hk : kAt (M 78) n b = wk (M 78) b e := by unfold kAt; rw [if_neg (by omega), if_pos yl, hee]
              refine ⟨rfl, ⟨fun c hc => by rw [yu_rn hc, yu_rn hc, q0 c hc], fun k hk => by rw [yu_ne (by omega), yu_ne (by omega), q1 k hk], by rw [yu_ne (by decide), yu_ne (by decide), q22], ?_, ?_, fun h => ?_, fun h => ?_⟩, rfl⟩
              · unfold eAt; rw [if_neg (by omega), if_pos yl, hee, yu_ne (by decide), yu_ne (by decide), q21]
              · rw [hk, ← w1, yu_ne (by decide), yu_at]
              · rw [hk] at h
                unfold vAt; rw [if_pos yl, yu_at]; exact w2 (by omega)
              · rw [hk] at h ⊢
                rw [yu_at]; exact w3 h
            · refine r_run 4 (pc' := 403) (ls' := [some (yr 75), some (yi cc), some (yi w)]) (st' := []) (M' := (yu (yu M3 75 23 ((4 + w) - 9)) 75 24 w)) (N' := N) rfl ?_
              refine r_vret m_123 rfl f_123_403 ?_
              rw [if_neg (by omega), if_neg (by omega), if_neg (by omega)] at w1
              rw [if_pos (by omega)] at w2 w3
              have yl := isL_yes (x := M 78 b) (by omega)
              have hk : kAt (M 78) n b = wk (M 78) b e := by unfold kAt; rw [if_neg (by omega), if_pos yl, hee]
              refine ⟨rfl, ⟨fun c hc => by rw [yu_rn hc, yu_rn hc, q0 c hc], fun k hk => by rw [yu_ne (by omega), yu_ne (by omega), q1 k hk], by rw [yu_ne (by decide), yu_ne (by decide), q22], ?_, ?_, fun h => ?_, fun h => ?_⟩, rfl⟩
              · unfold eAt; rw [if_neg (by omega), if_pos yl, hee, yu_ne (by decide), yu_ne (by decide), q21]
              · rw [hk, ← w1, yu_ne (by decide), yu_at]
              · rw [hk] at h
                unfold vAt; rw [if_pos yl, yu_at]; exact w2 (by omega)
              · rw [hk] at h ⊢
                rw [yu_at]; exact w3 h
          · refine r_run 6 (pc' := 201) (ls' := [some (yr 75), some (yi cc), some (yi w)]) (st' := [yi 3, yi w, yr 75]) (M' := (yu M3 75 23 (-1))) (N' := N) rfl ?_
            refine r_icmp_ge (pc := 201) f_123_201 (by omega) (by omega) (fun h201 => ?_) (fun h201 => ?_)
            · refine r_run 5 (pc' := 403) (ls' := [some (yr 75), some (yi cc), some (yi w)]) (st' := []) (M' := (yu (yu M3 75 23 (-1)) 75 24 (w - 3))) (N' := N) rfl ?_
              refine r_vret m_123 rfl f_123_403 ?_
              rw [if_neg (by omega), if_neg (by omega), if_pos (by omega)] at w1
              rw [if_neg (by omega)] at w2 w3
              have yl := isL_yes (x := M 78 b) (by omega)
              have hk : kAt (M 78) n b = wk (M 78) b e := by unfold kAt; rw [if_neg (by omega), if_pos yl, hee]
              refine ⟨rfl, ⟨fun c hc => by rw [yu_rn hc, yu_rn hc, q0 c hc], fun k hk => by rw [yu_ne (by omega), yu_ne (by omega), q1 k hk], by rw [yu_ne (by decide), yu_ne (by decide), q22], ?_, ?_, fun h => ?_, fun h => ?_⟩, rfl⟩
              · unfold eAt; rw [if_neg (by omega), if_pos yl, hee, yu_ne (by decide), yu_ne (by decide), q21]
              · rw [hk, ← w1, yu_ne (by decide), yu_at]
              · rw [hk] at h
                unfold vAt; rw [if_pos yl, yu_at]; exact w2 (by omega)
              · rw [hk] at h ⊢
                rw [yu_at]; exact w3 h
            · refine r_run 4 (pc' := 403) (ls' := [some (yr 75), some (yi cc), some (yi w)]) (st' := []) (M' := (yu (yu M3 75 23 (-1)) 75 24 w)) (N' := N) rfl ?_
              refine r_vret m_123 rfl f_123_403 ?_
              rw [if_neg (by omega), if_neg (by omega), if_pos (by omega)] at w1
              rw [if_pos (by omega)] at w2 w3
              have yl := isL_yes (x := M 78 b) (by omega)
              have hk : kAt (M 78) n b = wk (M 78) b e := by unfold kAt; rw [if_neg (by omega), if_pos yl, hee]
              refine ⟨rfl, ⟨fun c hc => by rw [yu_rn hc, yu_rn hc, q0 c hc], fun k hk => by rw [yu_ne (by omega), yu_ne (by omega), q1 k hk], by rw [yu_ne (by decide), yu_ne (by decide), q22], ?_, ?_, fun h => ?_, fun h => ?_⟩, rfl⟩
              · unfold eAt; rw [if_neg (by omega), if_pos yl, hee, yu_ne (by decide), yu_ne (by decide), q21]
              · rw [hk, ← w1, yu_ne (by decide), yu_at]
              · rw [hk] at h
                unfold vAt; rw [if_pos yl, yu_at]; exact w2 (by omega)
              · rw [hk] at h ⊢
                rw [yu_at]; exact w3 h
        · refine r_run 6 (pc' := 201) (ls' := [some (yr 75), some (yi cc), some (yi w)]) (st' := [yi 3, yi w, yr 75]) (M' := (yu M3 75 23 2)) (N' := N) rfl ?_
          refine r_icmp_ge (pc := 201) f_123_201 (by omega) (by omega) (fun h201 => ?_) (fun h201 => ?_)
          · refine r_run 5 (pc' := 403) (ls' := [some (yr 75), some (yi cc), some (yi w)]) (st' := []) (M' := (yu (yu M3 75 23 2) 75 24 (w - 3))) (N' := N) rfl ?_
            refine r_vret m_123 rfl f_123_403 ?_
            rw [if_neg (by omega), if_pos (by omega)] at w1
            rw [if_neg (by omega)] at w2 w3
            have yl := isL_yes (x := M 78 b) (by omega)
            have hk : kAt (M 78) n b = wk (M 78) b e := by unfold kAt; rw [if_neg (by omega), if_pos yl, hee]
            refine ⟨rfl, ⟨fun c hc => by rw [yu_rn hc, yu_rn hc, q0 c hc], fun k hk => by rw [yu_ne (by omega), yu_ne (by omega), q1 k hk], by rw [yu_ne (by decide), yu_ne (by decide), q22], ?_, ?_, fun h => ?_, fun h => ?_⟩, rfl⟩
            · unfold eAt; rw [if_neg (by omega), if_pos yl, hee, yu_ne (by decide), yu_ne (by decide), q21]
            · rw [hk, ← w1, yu_ne (by decide), yu_at]
            · rw [hk] at h
              unfold vAt; rw [if_pos yl, yu_at]; exact w2 (by omega)
            · rw [hk] at h ⊢
              rw [yu_at]; exact w3 h
          · refine r_run 4 (pc' := 403) (ls' := [some (yr 75), some (yi cc), some (yi w)]) (st' := []) (M' := (yu (yu M3 75 23 2) 75 24 w)) (N' := N) rfl ?_
            refine r_vret m_123 rfl f_123_403 ?_
            rw [if_neg (by omega), if_pos (by omega)] at w1
            rw [if_pos (by omega)] at w2 w3
            have yl := isL_yes (x := M 78 b) (by omega)
            have hk : kAt (M 78) n b = wk (M 78) b e := by unfold kAt; rw [if_neg (by omega), if_pos yl, hee]
            refine ⟨rfl, ⟨fun c hc => by rw [yu_rn hc, yu_rn hc, q0 c hc], fun k hk => by rw [yu_ne (by omega), yu_ne (by omega), q1 k hk], by rw [yu_ne (by decide), yu_ne (by decide), q22], ?_, ?_, fun h => ?_, fun h => ?_⟩, rfl⟩
            · unfold eAt; rw [if_neg (by omega), if_pos yl, hee, yu_ne (by decide), yu_ne (by decide), q21]
            · rw [hk, ← w1, yu_ne (by decide), yu_at]
            · rw [hk] at h
              unfold vAt; rw [if_pos yl, yu_at]; exact w2 (by omega)
            · rw [hk] at h ⊢
              rw [yu_at]; exact w3 h
      · refine r_run 6 (pc' := 201) (ls' := [some (yr 75), some (yi cc), some (yi w)]) (st' := [yi 3, yi w, yr 75]) (M' := (yu M3 75 23 3)) (N' := N) rfl ?_
        refine r_icmp_ge (pc := 201) f_123_201 (by omega) (by omega) (fun h201 => ?_) (fun h201 => ?_)
        · refine r_run 5 (pc' := 403) (ls' := [some (yr 75), some (yi cc), some (yi w)]) (st' := []) (M' := (yu (yu M3 75 23 3) 75 24 (w - 3))) (N' := N) rfl ?_
          refine r_vret m_123 rfl f_123_403 ?_
          rw [if_pos (by omega)] at w1
          rw [if_neg (by omega)] at w2 w3
          have yl := isL_yes (x := M 78 b) (by omega)
          have hk : kAt (M 78) n b = wk (M 78) b e := by unfold kAt; rw [if_neg (by omega), if_pos yl, hee]
          refine ⟨rfl, ⟨fun c hc => by rw [yu_rn hc, yu_rn hc, q0 c hc], fun k hk => by rw [yu_ne (by omega), yu_ne (by omega), q1 k hk], by rw [yu_ne (by decide), yu_ne (by decide), q22], ?_, ?_, fun h => ?_, fun h => ?_⟩, rfl⟩
          · unfold eAt; rw [if_neg (by omega), if_pos yl, hee, yu_ne (by decide), yu_ne (by decide), q21]
          · rw [hk, ← w1, yu_ne (by decide), yu_at]
          · rw [hk] at h
            unfold vAt; rw [if_pos yl, yu_at]; exact w2 (by omega)
          · rw [hk] at h ⊢
            rw [yu_at]; exact w3 h
        · refine r_run 4 (pc' := 403) (ls' := [some (yr 75), some (yi cc), some (yi w)]) (st' := []) (M' := (yu (yu M3 75 23 3) 75 24 w)) (N' := N) rfl ?_
          refine r_vret m_123 rfl f_123_403 ?_
          rw [if_pos (by omega)] at w1
          rw [if_pos (by omega)] at w2 w3
          have yl := isL_yes (x := M 78 b) (by omega)
          have hk : kAt (M 78) n b = wk (M 78) b e := by unfold kAt; rw [if_neg (by omega), if_pos yl, hee]
          refine ⟨rfl, ⟨fun c hc => by rw [yu_rn hc, yu_rn hc, q0 c hc], fun k hk => by rw [yu_ne (by omega), yu_ne (by omega), q1 k hk], by rw [yu_ne (by decide), yu_ne (by decide), q22], ?_, ?_, fun h => ?_, fun h => ?_⟩, rfl⟩
          · unfold eAt; rw [if_neg (by omega), if_pos yl, hee, yu_ne (by decide), yu_ne (by decide), q21]
          · rw [hk, ← w1, yu_ne (by decide), yu_at]
          · rw [hk] at h
            unfold vAt; rw [if_pos yl, yu_at]; exact w2 (by omega)
          · rw [hk] at h ⊢
            rw [yu_at]; exact w3 h
  · refine r_vret m_123 rfl f_123_81 ?_
    have nb : n ≤ b := by omega
    have hk : kAt (M 78) n b = 0 := by unfold kAt; rw [if_pos nb]
    refine ⟨rfl, ⟨g0, g1, g22, ?_, ?_, fun h => ?_, fun h => ?_⟩, rfl⟩
    · unfold eAt; rw [if_pos nb, g21]
    · rw [hk, g23]; rfl
    · exfalso; rw [hk] at h; omega
    · exfalso; rw [hk] at h; omega
