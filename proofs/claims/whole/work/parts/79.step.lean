/-! a token taken -/
theorem yu_4 {M : YM} {c k k2 a b a' b' : Int} (h : k ≠ k2) : yu (yu (yu (yu M c k a) c k2 b) c k a') c k2 b' = yu (yu M c k a') c k2 b' := by
  funext c' x
  unfold yu
  (repeat' split) <;> first | rfl | (exfalso; omega)
theorem nv_step {T : Int → Int} {x i a : Int} (h : i < x) : nv T (x - i).toNat i a = nv T (x - (i + 1)).toNat (i + 1) (10 * a + T i - 48) := by
  rw [show (x - i).toNat = (x - (i + 1)).toNat + 1 by omega]
  rfl
theorem c_num_l {S : XS} {d : Nat} {n : Int} {M N : YM} {Q : Option YV → YM → YM → Prop} (hd : 1 ≤ d) (ht : tpOk (M 28) n) (hn : M 27 1 = n) {j : Nat} : ∀ {i a : Int}, 0 ≤ i → i + j = n → ry S d 17 68 [some (yr 27)] [] (yu (yu M 27 6 (nv (M 28) (scn isD (M 28) n j i - i).toNat i a)) 27 4 (scn isD (M 28) n j i)) N Q → ry S d 17 5 [some (yr 27)] [] (yu (yu M 27 6 a) 27 4 i) N Q := by
  induction j with
  | zero =>
    intro i a h0 h1 kk
    have n160 := ht.1
    refine r_run 4 (pc' := 13) (ls' := [some (yr 27)]) (st' := [yi (M 27 1), yi i]) (M' := (yu (yu M 27 6 a) 27 4 i)) (N' := N) rfl ?_
    refine r_icmp_ge (pc := 13) f_17_13 (by omega) (by omega) (fun h13 => ?_) (fun h13 => ?_)
    · rw [scn_no (by intro h; have h2 := h.1; omega)] at kk
      rw [Int.sub_self] at kk
      exact kk
    · exfalso; omega
  | succ j ih =>
    intro i a h0 h1 kk
    have n160 := ht.1
    have hT := ht.2 i h0 (by omega)
    refine r_run 4 (pc' := 13) (ls' := [some (yr 27)]) (st' := [yi (M 27 1), yi i]) (M' := (yu (yu M 27 6 a) 27 4 i)) (N' := N) rfl ?_
    refine r_icmp_ge (pc := 13) f_17_13 (by omega) (by omega) (fun h13 => ?_) (fun h13 => ?_)
    · rw [scn_no (by intro h; have h2 := h.1; omega)] at kk
      rw [Int.sub_self] at kk
      exact kk
    · refine r_run 4 (pc' := 24) (ls' := [some (yr 27)]) (st' := [yi i, yr 28]) (M' := (yu (yu M 27 6 a) 27 4 i)) (N' := N) rfl ?_
      refine r_iald (n := 160) f_17_24 (by decide) (by decide) (by decide) (by omega) ?_
      refine r_static (mj := 20) (as := [yi (M 28 i)]) (rest := []) f_17_25 (by decide) rfl m_20 rfl rfl rfl (Nat.le_of_ble_eq_true rfl) (by omega) (c_isDigit (by omega)) ?_
      rintro _ _ _ ⟨v25, rfl, hv25, rfl, rfl⟩
      refine r_if_eq (pc := 28) f_17_28 (by omega) (fun h28 => ?_) (fun h28 => ?_)
      · rw [scn_no (by intro h; have h2 := h.2; rw [isD_no (by omega)] at h2; exact absurd h2 (by decide))] at kk
        rw [Int.sub_self] at kk
        exact kk
      · refine r_run 9 (pc' := 47) (ls' := [some (yr 27)]) (st' := [yi i, yr 28, yi (10 * a), yr 27]) (M' := (yu (yu M 27 6 a) 27 4 i)) (N' := N) rfl ?_
        refine r_iald (n := 160) f_17_47 (by decide) (by decide) (by decide) (by omega) ?_
        refine r_run 11 (pc' := 5) (ls' := [some (yr 27)]) (st' := []) (M' := (yu (yu (yu (yu M 27 6 a) 27 4 i) 27 6 (((10 * a) + (M 28 i)) - 48)) 27 4 (i + 1))) (N' := N) rfl ?_
        rw [yu_4 (by decide)]
        refine ih (by omega) (by omega) ?_
        have hl := @scn_in isD (M 28) n j (i + 1)
        rw [scn_yes (show i < n by omega) (isD_yes (by omega)), nv_step (by omega)] at kk
        exact kk
theorem c_takeNumber {S : XS} {M N : YM} {n s : Int} (ht : tpOk (M 28) n) (hn : M 27 1 = n) (hs : 0 ≤ s) (hsn : s < n) (hs3 : M 27 3 = s) (hs4 : M 27 4 = s) : rm S 2 17 [yr 27] M N (fun r M' N' => none = r ∧ yu (yu (yu M 27 6 (nv (M 28) (scE isD (M 28) n s - s).toNat s 0)) 27 4 (scE isD (M 28) n s)) 27 5 (if 4 < scE isD (M 28) n s - s then 1 else 2) = M' ∧ N = N') := by
  refine ⟨xe_17, m_17, Nat.le_of_ble_eq_true rfl, ?_⟩
  have n160 := ht.1
  have he := scE_in (P := isD) (T := M 28) (show s ≤ n by omega)
  refine r_run 3 (pc' := 5) (ls' := [some (yr 27)]) (st' := []) (M' := (yu M 27 6 0)) (N' := N) rfl ?_
  rw [show yu M 27 6 0 = yu (yu M 27 6 0) 27 4 s by rw [← hs4, show M 27 4 = yu M 27 6 0 27 4 from (yu_ne (by decide)).symm, yu_self]]
  refine c_num_l (by omega) ht hn (j := (n - s).toNat) hs (by omega) ?_
  show ry S 2 17 68 [some (yr 27)] [] (yu (yu M 27 6 (nv (M 28) (scE isD (M 28) n s - s).toNat s 0)) 27 4 (scE isD (M 28) n s)) N _
  generalize nv (M 28) (scE isD (M 28) n s - s).toNat s 0 = z
  generalize scE isD (M 28) n s = e at he ⊢
  refine r_run 7 (pc' := 79) (ls' := [some (yr 27)]) (st' := [yi 4, yi (e - (M 27 3)), yr 27]) (M' := (yu (yu M 27 6 z) 27 4 e)) (N' := N) rfl ?_
  refine r_icmp_le (pc := 79) f_17_79 (by omega) (by omega) (fun h79 => ?_) (fun h79 => ?_)
  · refine r_run 2 (pc' := 90) (ls' := [some (yr 27)]) (st' := []) (M' := (yu (yu (yu M 27 6 z) 27 4 e) 27 5 2)) (N' := N) rfl ?_
    refine r_vret m_17 rfl f_17_90 ?_
    exact ⟨rfl, by rw [if_neg (by omega)], rfl⟩
  · refine r_run 3 (pc' := 90) (ls' := [some (yr 27)]) (st' := []) (M' := (yu (yu (yu M 27 6 z) 27 4 e) 27 5 1)) (N' := N) rfl ?_
    refine r_vret m_17 rfl f_17_90 ?_
    exact ⟨rfl, by rw [if_pos (by omega)], rfl⟩
theorem c_step_l {S : XS} {d : Nat} {n : Int} {M N : YM} {Q : Option YV → YM → YM → Prop} (ht : tpOk (M 28) n) (hn : M 27 1 = n) {j : Nat} : ∀ {i : Int}, 0 ≤ i → i + j = n → ry S d 15 60 [some (yr 27)] [] (yu M 27 3 (scn isB (M 28) n j i)) N Q → ry S d 15 8 [some (yr 27)] [] (yu M 27 3 i) N Q := by
  induction j with
  | zero =>
    intro i h0 h1 kk
    have n160 := ht.1
    refine r_run 4 (pc' := 16) (ls' := [some (yr 27)]) (st' := [yi (M 27 1), yi i]) (M' := (yu M 27 3 i)) (N' := N) rfl ?_
    refine r_icmp_ge (pc := 16) f_15_16 (by omega) (by omega) (fun h16 => ?_) (fun h16 => ?_)
    · rw [scn_no (by intro h; have h2 := h.1; omega)] at kk
      exact kk
    · exfalso; omega
  | succ j ih =>
    intro i h0 h1 kk
    have n160 := ht.1
    have hT := ht.2 i h0 (by omega)
    refine r_run 4 (pc' := 16) (ls' := [some (yr 27)]) (st' := [yi (M 27 1), yi i]) (M' := (yu M 27 3 i)) (N' := N) rfl ?_
    refine r_icmp_ge (pc := 16) f_15_16 (by omega) (by omega) (fun h16 => ?_) (fun h16 => ?_)
    · rw [scn_no (by intro h; have h2 := h.1; omega)] at kk
      exact kk
    · refine r_run 4 (pc' := 27) (ls' := [some (yr 27)]) (st' := [yi i, yr 28]) (M' := (yu M 27 3 i)) (N' := N) rfl ?_
      refine r_iald (n := 160) f_15_27 (by decide) (by decide) (by decide) (by omega) ?_
      refine r_run 1 (pc' := 30) (ls' := [some (yr 27)]) (st' := [yi 32, yi (M 28 i)]) (M' := (yu M 27 3 i)) (N' := N) rfl ?_
      refine r_icmp_eq (pc := 30) f_15_30 (by omega) (by omega) (fun h30 => ?_) (fun h30 => ?_)
      · refine r_run 7 (pc' := 8) (ls' := [some (yr 27)]) (st' := []) (M' := (yu (yu M 27 3 i) 27 3 (i + 1))) (N' := N) rfl ?_
        rw [yu_yu]
        refine ih (by omega) (by omega) ?_
        rw [scn_yes (show i < n by omega) (isB_yes (by omega))] at kk
        exact kk
      · refine r_run 4 (pc' := 41) (ls' := [some (yr 27)]) (st' := [yi i, yr 28]) (M' := (yu M 27 3 i)) (N' := N) rfl ?_
        refine r_iald (n := 160) f_15_41 (by decide) (by decide) (by decide) (by omega) ?_
        refine r_run 1 (pc' := 44) (ls' := [some (yr 27)]) (st' := [yi 10, yi (M 28 i)]) (M' := (yu M 27 3 i)) (N' := N) rfl ?_
        refine r_icmp_ne (pc := 44) f_15_44 (by omega) (by omega) (fun h44 => ?_) (fun h44 => ?_)
        · rw [scn_no (by intro h; have h2 := h.2; rw [isB_no (by omega)] at h2; exact absurd h2 (by decide))] at kk
          exact kk
        · refine r_run 7 (pc' := 8) (ls' := [some (yr 27)]) (st' := []) (M' := (yu (yu M 27 3 i) 27 3 (i + 1))) (N' := N) rfl ?_
          rw [yu_yu]
          refine ih (by omega) (by omega) ?_
          rw [scn_yes (show i < n by omega) (isB_yes (by omega))] at kk
          exact kk
theorem c_step {S : XS} {M N : YM} {n : Int} (ht : tpOk (M 28) n) (hn : M 27 1 = n) {q : Int} (hq : 0 ≤ q ∧ q ≤ n) (h4 : M 27 4 = q) {b : Int} (hb : b = tB (M 28) n q) : rm S 7 15 [yr 27] M N (fun r M' N' => none = r ∧ ((∀ c, c ≠ 27 → M' c = M c) ∧ (∀ k, k < 3 ∨ 6 < k → M' 27 k = M 27 k) ∧ M' 27 3 = b ∧ M' 27 4 = eAt (M 28) n b ∧ M' 27 5 = kAt (M 28) n b ∧ (kAt (M 28) n b = 2 ∨ kAt (M 28) n b = 3 → M' 27 6 = vAt (M 28) n b)) ∧ N = N') := by
  refine ⟨xe_15, m_15, Nat.le_of_ble_eq_true rfl, ?_⟩
  have n160 := ht.1
  have hbb := scE_in (P := isB) (T := M 28) hq.2
  rw [show scE isB (M 28) n q = b from hb.symm] at hbb
  have hb0 : 0 ≤ b := by omega
  have hT : b < n → 0 ≤ M 28 b ∧ M 28 b ≤ 255 := fun h => ht.2 b hb0 h
  refine r_run 4 (pc' := 8) (ls' := [some (yr 27)]) (st' := []) (M' := (yu M 27 3 (M 27 4))) (N' := N) rfl ?_
  rw [h4]
  refine c_step_l ht hn (j := (n - q).toNat) hq.1 (by omega) ?_
  rw [show scn isB (M 28) n (n - q).toNat q = b from hb.symm]
  refine r_run 4 (pc' := 68) (ls' := [some (yr 27)]) (st' := []) (M' := (yu (yu M 27 3 b) 27 4 b)) (N' := N) rfl ?_
  generalize hM2 : (yu (yu M 27 3 b) 27 4 b) = M2
  have g0 : ∀ c, c ≠ 27 → M2 c = M c := fun c hc => by rw [← hM2, yu_rn hc, yu_rn hc]
  have g1 : ∀ k, k < 3 ∨ 4 < k → M2 27 k = M 27 k := fun k hk => by rw [← hM2, yu_ne (by omega), yu_ne (by omega)]
  have g3 : M2 27 3 = b := by rw [← hM2, yu_ne (by decide), yu_at]
  have g4 : M2 27 4 = b := by rw [← hM2, yu_at]
  have g28 : M2 28 = M 28 := g0 28 (by decide)
  have g1n : M2 27 1 = n := by rw [g1 1 (by decide)]; exact hn
  have gT : M2 28 (M2 27 3) = M 28 b := by rw [g3, g28]
  refine r_run 4 (pc' := 76) (ls' := [some (yr 27)]) (st' := [yi (M2 27 1), yi (M2 27 3)]) (M' := M2) (N' := N) rfl ?_
  refine r_icmp_lt (pc := 76) f_15_76 (by omega) (by omega) (fun h76 => ?_) (fun h76 => ?_)
  · refine r_run 4 (pc' := 95) (ls' := [some (yr 27)]) (st' := [yi (M2 27 3), yr 28]) (M' := M2) (N' := N) rfl ?_
    refine r_iald (n := 160) f_15_95 (by decide) (by decide) (by decide) (by omega) ?_
    refine r_static (mj := 19) (as := [yi (M2 28 (M2 27 3))]) (rest := []) f_15_96 (by decide) rfl m_19 rfl rfl rfl (Nat.le_of_ble_eq_true rfl) (by omega) (c_isLetter (by omega)) ?_
    rintro _ _ _ ⟨v96, rfl, hv96, rfl, rfl⟩
    refine r_if_eq (pc := 99) f_15_99 (by omega) (fun h99 => ?_) (fun h99 => ?_)
    · refine r_run 4 (pc' := 117) (ls' := [some (yr 27)]) (st' := [yi (M2 27 3), yr 28]) (M' := M2) (N' := N) rfl ?_
      refine r_iald (n := 160) f_15_117 (by decide) (by decide) (by decide) (by omega) ?_
      refine r_static (mj := 20) (as := [yi (M2 28 (M2 27 3))]) (rest := []) f_15_118 (by decide) rfl m_20 rfl rfl rfl (Nat.le_of_ble_eq_true rfl) (by omega) (c_isDigit (by omega)) ?_
      rintro _ _ _ ⟨v118, rfl, hv118, rfl, rfl⟩
      refine r_if_eq (pc := 121) f_15_121 (by omega) (fun h121 => ?_) (fun h121 => ?_)
      · refine r_run 12 (pc' := 152) (ls' := [some (yr 27)]) (st' := [yi (M2 27 3), yr 28, yr 10007, yr 27]) (M' := (yu M2 27 4 ((M2 27 3) + 1))) (N' := N) rfl ?_
        refine r_iald (n := 160) f_15_152 (by decide) (by decide) (by decide) (by omega) ?_
        refine r_i2c (show xi 15 153 = some (.i2c, 0, 0) from rfl) (by have e := @yu_rn M2 27 4 (M2 27 3 + 1) 28 (by decide); rw [e, gT]; have := hT (by omega); omega) ?_
        refine r_vstring (mj := 194) (b := 10007) (as := [yi (M2 28 (M2 27 3))]) (rest := [yr 27]) f_15_154 (by decide) rfl m_194 rfl (by omega) rfl rfl (Nat.le_of_ble_eq_true rfl) (by omega) (j_indexOf (by omega)) ?_
        rintro _ _ _ ⟨v154, rfl, hv154, rfl, rfl⟩
        rw [gT] at hv154
        refine r_if_lt (pc := 157) f_15_157 (by omega) (fun h157 => ?_) (fun h157 => ?_)
        · refine r_run 2 (pc' := 176) (ls' := [some (yr 27)]) (st' := []) (M' := (yu (yu M2 27 4 ((M2 27 3) + 1)) 27 5 1)) (N' := N) rfl ?_
          refine r_vret m_15 rfl f_15_176 ?_
          have nl := isL_no (x := M 28 b) (by omega)
          have nd := isD_no (x := M 28 b) (by omega)
          have hk : kAt (M 28) n b = 1 := by
            unfold kAt; rw [if_neg (by omega), if_neg (by rw [nl]; decide), if_neg (by rw [nd]; decide), pif_no (by rcases hv154 with h | h <;> first | exact h.2.2 | exact h.2 | (exfalso; omega))]
          have hsg : isSg (M 28 b) → 39 < M 28 b := by unfold isSg; omega
          refine ⟨rfl, ⟨fun c hc => by rw [yu_rn hc, yu_rn hc, g0 c hc], fun k hk => by rw [yu_ne (by omega), yu_ne (by omega), g1 k (by omega)], by rw [yu_ne (by decide), yu_ne (by decide), g3], ?_, ?_, fun h => ?_⟩, rfl⟩
          · unfold eAt; rw [if_neg (by omega), if_neg (by rw [nl]; decide), if_neg (by rw [nd]; decide), yu_ne (by decide), yu_at, g3]
          · rw [hk, yu_at]
          · exfalso; rw [hk] at h; omega
        · refine r_run 4 (pc' := 168) (ls' := [some (yr 27)]) (st' := [yi (M2 27 3), yr 28, yr 27]) (M' := (yu M2 27 4 ((M2 27 3) + 1))) (N' := N) rfl ?_
          refine r_iald (n := 160) f_15_168 (by decide) (by decide) (by decide) (by omega) ?_
          refine r_run 2 (pc' := 176) (ls' := [some (yr 27)]) (st' := []) (M' := (yu (yu M2 27 4 ((M2 27 3) + 1)) 27 5 (M2 28 (M2 27 3)))) (N' := N) rfl ?_
          refine r_vret m_15 rfl f_15_176 ?_
          have nl := isL_no (x := M 28 b) (by omega)
          have nd := isD_no (x := M 28 b) (by omega)
          have hk : kAt (M 28) n b = M 28 b := by
            unfold kAt; rw [if_neg (by omega), if_neg (by rw [nl]; decide), if_neg (by rw [nd]; decide), pif_yes (by rcases hv154 with h | h <;> first | exact h.2.2 | exact h.2 | (exfalso; omega))]
          have hsg : isSg (M 28 b) → 39 < M 28 b := by unfold isSg; omega
          refine ⟨rfl, ⟨fun c hc => by rw [yu_rn hc, yu_rn hc, g0 c hc], fun k hk => by rw [yu_ne (by omega), yu_ne (by omega), g1 k (by omega)], by rw [yu_ne (by decide), yu_ne (by decide), g3], ?_, ?_, fun h => ?_⟩, rfl⟩
          · unfold eAt; rw [if_neg (by omega), if_neg (by rw [nl]; decide), if_neg (by rw [nd]; decide), yu_ne (by decide), yu_at, g3]
          · rw [hk, yu_at]; exact gT
          · exfalso; rw [hk] at h; have := hsg (by rcases hv154 with h | h <;> first | exact h.2.2 | (exfalso; omega)); omega
      · refine r_run 1 (pc' := 125) (ls' := [some (yr 27)]) (st' := [yr 27]) (M' := M2) (N' := N) rfl ?_
        refine r_virtual (mj := 17) (b := 27) (as := []) (rest := []) f_15_125 (by decide) rfl m_17 (by decide) (by decide) (by decide) rfl rfl (Nat.le_of_ble_eq_true rfl) (by omega) (c_takeNumber (n := n) (s := b) (by rw [g28]; exact ht) (by rw [g1 1 (by decide)]; exact hn) hb0 (by omega) g3 g4) ?_
        rintro _ M3 _ ⟨rfl, hM3, rfl⟩
        refine r_run 1 (pc' := 176) (ls' := [some (yr 27)]) (st' := []) (M' := M3) (N' := N) rfl ?_
        refine r_vret m_15 rfl f_15_176 ?_
        have nl := isL_no (x := M 28 b) (by omega)
        have yd := isD_yes (x := M 28 b) (by omega)
        refine ⟨rfl, ⟨fun c hc => by rw [← hM3, yu_rn hc, yu_rn hc, yu_rn hc, g0 c hc], fun k hk => by rw [← hM3, yu_ne (by omega), yu_ne (by omega), yu_ne (by omega), g1 k (by omega)], by rw [← hM3, yu_ne (by decide), yu_ne (by decide), yu_ne (by decide), g3], ?_, ?_, fun _ => ?_⟩, rfl⟩
        · unfold eAt; rw [if_neg (by omega), if_neg (by rw [nl]; decide), if_pos yd]; rw [← hM3, yu_ne (by decide), yu_at, g28]
        · unfold kAt; rw [if_neg (by omega), if_neg (by rw [nl]; decide), if_pos yd]; rw [← hM3, yu_at, g28]
        · unfold vAt; rw [if_neg (by rw [nl]; decide)]; rw [← hM3, yu_ne (by decide), yu_ne (by decide), yu_at, g28]
    · refine r_run 1 (pc' := 103) (ls' := [some (yr 27)]) (st' := [yr 27]) (M' := M2) (N' := N) rfl ?_
      refine r_virtual (mj := 16) (b := 27) (as := []) (rest := []) f_15_103 (by decide) rfl m_16 (by decide) (by decide) (by decide) rfl rfl (Nat.le_of_ble_eq_true rfl) (by omega) (c_takeWord (n := n) (s := b) (by rw [g28]; exact ht) (by rw [g1 1 (by decide)]; exact hn) hb0 (by omega) g3 g4 (by rw [g28]; exact isL_yes (by omega))) ?_
      rintro _ M3 _ ⟨rfl, hM3, rfl⟩
      refine r_run 1 (pc' := 176) (ls' := [some (yr 27)]) (st' := []) (M' := M3) (N' := N) rfl ?_
      refine r_vret m_15 rfl f_15_176 ?_
      have yl := isL_yes (x := M 28 b) (by omega)
      refine ⟨rfl, ⟨fun c hc => by rw [← hM3, yu_rn hc, yu_rn hc, yu_rn hc, g0 c hc], fun k hk => by rw [← hM3, yu_ne (by omega), yu_ne (by omega), yu_ne (by omega), g1 k (by omega)], by rw [← hM3, yu_ne (by decide), yu_ne (by decide), yu_ne (by decide), g3], ?_, ?_, fun _ => ?_⟩, rfl⟩
      · unfold eAt; rw [if_neg (by omega), if_pos yl]; rw [← hM3, yu_ne (by decide), yu_ne (by decide), yu_at, g28]
      · unfold kAt; rw [if_neg (by omega), if_pos yl]; rw [← hM3, yu_at, g28]
      · unfold vAt; rw [if_pos yl]; rw [← hM3, yu_ne (by decide), yu_at, g28]
  · refine r_run 4 (pc' := 176) (ls' := [some (yr 27)]) (st' := []) (M' := (yu M2 27 5 0)) (N' := N) rfl ?_
    refine r_vret m_15 rfl f_15_176 ?_
    have nb : n ≤ b := by omega
    refine ⟨rfl, ⟨fun c hc => by rw [yu_rn hc, g0 c hc], fun k hk => by rw [yu_ne (by omega), g1 k (by omega)], by rw [yu_ne (by decide), g3], ?_, ?_, fun h => ?_⟩, rfl⟩
    · unfold eAt; rw [if_pos nb, yu_ne (by decide), g4]
    · unfold kAt; rw [if_pos nb, yu_at]
    · exfalso; unfold kAt at h; rw [if_pos nb] at h; omega
