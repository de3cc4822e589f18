theorem c_bo_1 {S : XS} {d : Nat} {w n : Int} {N : YM} {Q : Option YV → YM → YM → Prop} (hn : 0 ≤ n ∧ n ≤ 4) {j : Nat} : ∀ {i r : Int} {M : YM}, 0 ≤ i → i + j = n → (0 ≤ r ∧ r < 2147483648) → (∀ M' r', (∀ c, c ≠ 39 → M' c = M c) → (∀ q, in6 q → M' 39 q = M 39 q + cnt j r q) → ry S d 104 43 [some (yr 0), some (yi w), some (yi n), some (yi r'), some (yi n)] [] M' N Q) → ry S d 104 13 [some (yr 0), some (yi w), some (yi n), some (yi r), some (yi i)] [] M N Q := by
  induction j with
  | zero =>
    intro i r M h0 h1 hr kk
    refine r_run 2 (pc' := 16) (ls' := [some (yr 0), some (yi w), some (yi n), some (yi r), some (yi i)]) (st' := [yi n, yi i]) (M' := M) (N' := N) rfl ?_
    refine r_icmp_ge (pc := 16) f_104_16 (by omega) (by omega) (fun h16 => ?_) (fun h16 => ?_)
    · rw [show i = n by omega]
      exact kk M r (fun c _ => rfl) (fun q _ => (Int.add_zero _).symm)
    · exfalso; omega
  | succ j ih =>
    intro i r M h0 h1 hr kk
    refine r_run 2 (pc' := 16) (ls' := [some (yr 0), some (yi w), some (yi n), some (yi r), some (yi i)]) (st' := [yi n, yi i]) (M' := M) (N' := N) rfl ?_
    refine r_icmp_ge (pc := 16) f_104_16 (by omega) (by omega) (fun h16 => ?_) (fun h16 => ?_)
    · exfalso; omega
    · refine r_run 4 (pc' := 26) (ls' := [some (yr 0), some (yi w), some (yi n), some (yi r), some (yi i)]) (st' := [yi 6, yi r, yr 39]) (M' := M) (N' := N) rfl ?_
      refine r_irem f_104_26 (by omega) (by omega) ?_
      refine r_run 1 (pc' := 28) (ls' := [some (yr 0), some (yi w), some (yi n), some (yi r), some (yi i)]) (st' := [yi (r % 6), yr 39, yi (r % 6), yr 39]) (M' := M) (N' := N) rfl ?_
      refine r_iald (n := 6) f_104_28 (by decide) (by decide) (by decide) (by omega) ?_
      refine r_run 2 (pc' := 31) (ls' := [some (yr 0), some (yi w), some (yi n), some (yi r), some (yi i)]) (st' := [yi ((M 39 (r % 6)) + 1), yi (r % 6), yr 39]) (M' := M) (N' := N) rfl ?_
      refine r_iast (n := 6) f_104_31 (by decide) (by decide) (by decide) (by omega) ?_
      refine r_run 2 (pc' := 35) (ls' := [some (yr 0), some (yi w), some (yi n), some (yi r), some (yi i)]) (st' := [yi 6, yi r]) (M' := (yu M 39 (r % 6) ((M 39 (r % 6)) + 1))) (N' := N) rfl ?_
      refine r_idiv f_104_35 (by omega) (by omega) ?_
      refine r_run 3 (pc' := 13) (ls' := [some (yr 0), some (yi w), some (yi n), some (yi (r / 6)), some (yi (i + 1))]) (st' := []) (M' := (yu M 39 (r % 6) ((M 39 (r % 6)) + 1))) (N' := N) rfl ?_
      have m0 := Int.emod_nonneg r (show (6 : Int) ≠ 0 by decide)
      have m1 := Int.emod_lt_of_pos r (show (0 : Int) < 6 by decide)
      refine ih (by omega) (by omega) (by omega) fun M' r' g1 g2 => kk M' r' (fun c hc => by rw [g1 c hc, yu_rn hc]) (fun q hq => ?_)
      rw [g2 q hq, yu_row, yrow_at]
      show _ = _ + ((if r % 6 = q then 1 else 0) + cnt j (r / 6) q)
      by_cases e : q = r % 6
      · rw [if_pos e.symm, e, up_at]; omega
      · rw [if_neg (fun h => e h.symm), up_ne e]; omega
theorem c_bo_2 {S : XS} {d : Nat} {w n r : Int} {N : YM} {Q : Option YV → YM → YM → Prop} {j : Nat} : ∀ {q : Int} {M : YM}, 0 ≤ q → q + j = 6 → (∀ q, in6 q → 0 ≤ M 39 q ∧ M 39 q ≤ 4) → (∀ M', (∀ c, c ≠ 34 → c ≠ 35 → M' c = M c) → (∀ i, 0 ≤ i → i < q → M' 34 i = M 34 i ∧ M' 35 i = M 35 i) → (∀ i, q ≤ i → i < 6 → M' 34 i = M 34 i + M 39 i / 2 ∧ M' 35 i = M 35 i - (M 39 i + 1) / 2) → ry S d 104 117 [some (yr 0), some (yi w), some (yi n), some (yi r), some (yi 6)] [] M' N Q) → ry S d 104 58 [some (yr 0), some (yi w), some (yi n), some (yi r), some (yi q)] [] M N Q := by
  induction j with
  | zero =>
    intro q M h0 h1 h39 kk
    refine r_run 2 (pc' := 62) (ls' := [some (yr 0), some (yi w), some (yi n), some (yi r), some (yi q)]) (st' := [yi 6, yi q]) (M' := M) (N' := N) rfl ?_
    refine r_icmp_ge (pc := 62) f_104_62 (by omega) (by omega) (fun h62 => ?_) (fun h62 => ?_)
    · have e : q = 6 := by omega
      subst e
      exact kk M (fun c _ _ => rfl) (fun i _ _ => ⟨rfl, rfl⟩) (fun i i0 i1 => by omega)
    · exfalso; omega
  | succ j ih =>
    intro q M h0 h1 h39 kk
    have h9 := h39 q ⟨h0, by omega⟩
    refine r_run 2 (pc' := 62) (ls' := [some (yr 0), some (yi w), some (yi n), some (yi r), some (yi q)]) (st' := [yi 6, yi q]) (M' := M) (N' := N) rfl ?_
    refine r_icmp_ge (pc := 62) f_104_62 (by omega) (by omega) (fun h62 => ?_) (fun h62 => ?_)
    · exfalso; omega
    · refine r_run 5 (pc' := 75) (ls' := [some (yr 0), some (yi w), some (yi n), some (yi r), some (yi q)]) (st' := [yi q, yr 34, yi q, yr 34]) (M' := M) (N' := N) rfl ?_
      refine r_iald (n := 6) f_104_75 (by decide) (by decide) (by decide) (by omega) ?_
      refine r_run 3 (pc' := 82) (ls' := [some (yr 0), some (yi w), some (yi n), some (yi r), some (yi q)]) (st' := [yi q, yr 39, yi (M 34 q), yi q, yr 34]) (M' := M) (N' := N) rfl ?_
      refine r_iald (n := 6) f_104_82 (by decide) (by decide) (by decide) (by omega) ?_
      refine r_run 1 (pc' := 84) (ls' := [some (yr 0), some (yi w), some (yi n), some (yi r), some (yi q)]) (st' := [yi 2, yi (M 39 q), yi (M 34 q), yi q, yr 34]) (M' := M) (N' := N) rfl ?_
      refine r_idiv f_104_84 (by omega) (by omega) ?_
      refine r_run 1 (pc' := 86) (ls' := [some (yr 0), some (yi w), some (yi n), some (yi r), some (yi q)]) (st' := [yi ((M 34 q) + ((M 39 q) / 2)), yi q, yr 34]) (M' := M) (N' := N) rfl ?_
      refine r_iast (n := 6) f_104_86 (by decide) (by decide) (by decide) (by omega) ?_
      refine r_run 5 (pc' := 97) (ls' := [some (yr 0), some (yi w), some (yi n), some (yi r), some (yi q)]) (st' := [yi q, yr 35, yi q, yr 35]) (M' := (yu M 34 q ((M 34 q) + ((M 39 q) / 2)))) (N' := N) rfl ?_
      refine r_iald (n := 6) f_104_97 (by decide) (by decide) (by decide) (by omega) ?_
      refine r_run 3 (pc' := 104) (ls' := [some (yr 0), some (yi w), some (yi n), some (yi r), some (yi q)]) (st' := [yi q, yr 39, yi (M 35 q), yi q, yr 35]) (M' := (yu M 34 q ((M 34 q) + ((M 39 q) / 2)))) (N' := N) rfl ?_
      refine r_iald (n := 6) f_104_104 (by decide) (by decide) (by decide) (by omega) ?_
      refine r_run 3 (pc' := 108) (ls' := [some (yr 0), some (yi w), some (yi n), some (yi r), some (yi q)]) (st' := [yi 2, yi ((M 39 q) + 1), yi (M 35 q), yi q, yr 35]) (M' := (yu M 34 q ((M 34 q) + ((M 39 q) / 2)))) (N' := N) rfl ?_
      refine r_idiv f_104_108 (by omega) (by omega) ?_
      refine r_run 1 (pc' := 110) (ls' := [some (yr 0), some (yi w), some (yi n), some (yi r), some (yi q)]) (st' := [yi ((M 35 q) - (((M 39 q) + 1) / 2)), yi q, yr 35]) (M' := (yu M 34 q ((M 34 q) + ((M 39 q) / 2)))) (N' := N) rfl ?_
      refine r_iast (n := 6) f_104_110 (by decide) (by decide) (by decide) (by omega) ?_
      refine r_run 2 (pc' := 58) (ls' := [some (yr 0), some (yi w), some (yi n), some (yi r), some (yi (q + 1))]) (st' := []) (M' := (yu (yu M 34 q ((M 34 q) + ((M 39 q) / 2))) 35 q ((M 35 q) - (((M 39 q) + 1) / 2)))) (N' := N) rfl ?_
      generalize hM4 : (yu (yu M 34 q ((M 34 q) + ((M 39 q) / 2))) 35 q ((M 35 q) - (((M 39 q) + 1) / 2))) = M4
      have f4 : ∀ c, c ≠ 34 → c ≠ 35 → M4 c = M c := fun c h1 h2 => by rw [← hM4, yu_rn h2, yu_rn h1]
      have f5 : ∀ i, i ≠ q → M4 34 i = M 34 i ∧ M4 35 i = M 35 i := fun i hi => ⟨by rw [← hM4, yu_ne (by omega), yu_ne (by omega)], by rw [← hM4, yu_ne (by omega), yu_ne (by omega)]⟩
      have f6 : M4 34 q = M 34 q + M 39 q / 2 := by rw [← hM4, yu_ne (by omega), yu_at]
      have f7 : M4 35 q = M 35 q - (M 39 q + 1) / 2 := by rw [← hM4, yu_at]
      have g39 : M4 39 = M 39 := f4 39 (by decide) (by decide)
      refine ih (by omega) (by omega) (by rw [g39]; exact h39) fun M' g1 g2 g3 => kk M' (fun c h1 h2 => by rw [g1 c h1 h2, f4 c h1 h2]) (fun i i0 i1 => ?_) (fun i i0 i1 => ?_)
      · have a := g2 i i0 (by omega)
        have b := f5 i (by omega)
        exact ⟨by rw [a.1, b.1], by rw [a.2, b.2]⟩
      · by_cases hi : i = q
        · have a := g2 q h0 (by omega)
          rw [hi]
          exact ⟨by rw [a.1, f6], by rw [a.2, f7]⟩
        · have a := g3 i (by omega) i1
          have b := f5 i hi
          rw [g39, b.1, b.2] at a
          exact a
theorem c_bought {S : XS} {M N : YM} {w n : Int} (R : Rel M) (T : tied M (M 77) sk0 (M 75 2)) (hn : 0 ≤ n ∧ n ≤ 4) (hw : 0 ≤ w ∧ w < 2147483648) : rm S 3 104 [yr 0, yi w, yi n] M N (fun r M' N' => ∃ v : Int, some (yi v) = r ∧ (v = xV M (bB M n w) (bE M n w) ∧ (v = 0 ∨ v = 1) ∧ (v = 1 → cAt M' (xT M (bB M n w) (bE M n w))) ∧ tied M' (M' 77) sk0 (M' 75 2) ∧ Rel M' ∧ eqn M M') ∧ N = N') := by
  refine ⟨xe_104, m_104, Nat.le_of_ble_eq_true rfl, ?_⟩
  refine r_run 3 (pc' := 5) (ls' := [some (yr 0), some (yi w), some (yi n), none, none]) (st' := [yi 0, yr 39]) (M' := M) (N' := N) rfl ?_
  refine r_static (mj := 204) (as := [yr 39, yi 0]) (rest := []) f_104_5 (by decide) rfl m_204 rfl rfl rfl (Nat.le_of_ble_eq_true rfl) (by omega) (j_fill6 (by omega) (by decide)) ?_
  rintro _ M1 _ ⟨rfl, hM1, rfl⟩
  have f1 : ∀ c, c ≠ 39 → M1 c = M c := fun c hc => by rw [← hM1, yfill_row, yrow_ne hc]
  have z1 : ∀ q, in6 q → M1 39 q = 0 := fun q hq => by rw [← hM1, yfill_at (by omega)]
  refine r_run 4 (pc' := 13) (ls' := [some (yr 0), some (yi w), some (yi n), some (yi w), some (yi 0)]) (st' := []) (M' := M1) (N' := N) rfl ?_
  refine c_bo_1 (j := n.toNat) hn (Int.le_refl 0) (by omega) hw fun M2 r2 f2 k2 => ?_
  have q2 : eqn M M2 := eqn.of fun c hc => by rw [f2 c (by omega), f1 c (by omega)]
  have R2 := R.congr q2
  have k39 : ∀ q, in6 q → M2 39 q = cnt n.toNat w q := fun q hq => by rw [k2 q hq, z1 q hq, Int.zero_add]
  refine r_run 5 (pc' := 52) (ls' := [some (yr 0), some (yi w), some (yi n), some (yi r2), some (yi n)]) (st' := [yi 0, yr 1, yr 33]) (M' := M2) (N' := N) rfl ?_
  refine r_virtual (mj := 34) (b := 33) (as := [yr 1, yi 0]) (rest := []) f_104_52 (by decide) rfl m_34 (by decide) (by decide) (by decide) rfl rfl (Nat.le_of_ble_eq_true rfl) (by omega) (c_leave0 (w := 0) R2) ?_
  rintro _ M3 _ ⟨rfl, ⟨f3, b3⟩, rfl⟩
  refine r_run 2 (pc' := 58) (ls' := [some (yr 0), some (yi w), some (yi n), some (yi r2), some (yi 0)]) (st' := []) (M' := M3) (N' := N) rfl ?_
  refine c_bo_2 (j := 6) (Int.le_refl 0) rfl (fun q hq => by have := @cnt_in n.toNat w q; rw [f3 39 (by decide) (by decide), k39 q hq]; omega) fun M5 g1 _ g3 => ?_
  have q5 : eqn M M5 := eqn.of fun c hc => by rw [g1 c (by omega) (by omega), f3 c (by omega) (by omega), f2 c (by omega), f1 c (by omega)]
  have R5 := R.congr q5
  have b5 : ∀ q, in6 q → M5 34 q = bB M n w q ∧ M5 35 q = bE M n w q ∧ (0 ≤ bB M n w q ∧ bB M n w q ≤ 1001) ∧ (-2 ≤ bE M n w q ∧ bE M n w q ≤ 999) := fun q hq => by
    have a := g3 q hq.1 (by omega)
    have b := b3 q hq
    rw [q2.eqs.eB, q2.eqs.eE] at b
    rw [f3 39 (by decide) (by decide), k39 q hq, b.1, b.2] at a
    exact ⟨a.1, a.2, bB_in R hn q hq⟩
  have T5 : tied M5 (M5 77) sk0 (M5 75 2) := by
    rw [q5.eqs.2.2.2.2, q5.eqs.2.1]
    exact T.fr (by rw [g1 38 (by decide) (by decide), f3 38 (by decide) (by decide), f2 38 (by decide), f1 38 (by decide)]) (by rw [g1 33 (by decide) (by decide), f3 33 (by decide) (by decide), f2 33 (by decide), f1 33 (by decide)])
  refine r_run 2 (pc' := 121) (ls' := [some (yr 0), some (yi w), some (yi n), some (yi r2), some (yi 6)]) (st' := [yr 33]) (M' := M5) (N' := N) rfl ?_
  refine r_virtual (mj := 38) (b := 33) (as := []) (rest := []) f_104_121 (by decide) rfl m_38 (by decide) (by decide) (by decide) rfl rfl (Nat.le_of_ble_eq_true rfl) (by omega) (c_cutX (B := bB M n w) (E := bE M n w) R5 b5 T5) ?_
  rintro _ M6 _ ⟨v6, rfl, ⟨hv6, v01, a6, f6, R6, e6⟩, rfl⟩
  rw [q5.eqs.eX] at hv6
  rw [q5.eqs.eZ] at a6
  refine r_zret m_104 rfl f_104_124 (by omega) ?_
  refine ⟨_, rfl, ⟨hv6, v01, a6, ?_, R6, q5.trans e6⟩, rfl⟩
  rw [e6.eqs.2.2.2.2, e6.eqs.2.1]
  exact T5.fr (f6 38 (by decide) (by decide)) (by rw [f6 33 (by decide) (by decide)])
theorem m_rd_l {S : XS} {d : Nat} {n : Int} {M N : YM} {Q : Option YV → YM → YM → Prop} (hn : 0 ≤ n ∧ n ≤ 4) {j : Nat} : ∀ {k a : Int}, 0 ≤ k → k + j = n → Q (some (yi (mdg (M 93) j k a))) M N → ry S d 166 4 [some (yr 75), some (yi n), some (yi a), some (yi k)] [] M N Q := by
  induction j with
  | zero =>
    intro k a h0 h1 kk
    refine r_run 2 (pc' := 6) (ls' := [some (yr 75), some (yi n), some (yi a), some (yi k)]) (st' := [yi n, yi k]) (M' := M) (N' := N) rfl ?_
    refine r_icmp_ge (pc := 6) f_166_6 (by omega) (by omega) (fun h6 => ?_) (fun h6 => ?_)
    · refine r_run 1 (pc' := 30) (ls' := [some (yr 75), some (yi n), some (yi a), some (yi k)]) (st' := [yi a]) (M' := M) (N' := N) rfl ?_
      refine r_iret m_166 rfl f_166_30 ?_
      exact kk
    · exfalso; omega
  | succ j ih =>
    intro k a h0 h1 kk
    refine r_run 2 (pc' := 6) (ls' := [some (yr 75), some (yi n), some (yi a), some (yi k)]) (st' := [yi n, yi k]) (M' := M) (N' := N) rfl ?_
    refine r_icmp_ge (pc := 6) f_166_6 (by omega) (by omega) (fun h6 => ?_) (fun h6 => ?_)
    · exfalso; omega
    · refine r_run 6 (pc' := 18) (ls' := [some (yr 75), some (yi n), some (yi a), some (yi k)]) (st' := [yi k, yr 93, yi (10 * a)]) (M' := M) (N' := N) rfl ?_
      refine r_iald (n := 4) f_166_18 (by decide) (by decide) (by decide) (by omega) ?_
      refine r_run 6 (pc' := 4) (ls' := [some (yr 75), some (yi n), some (yi (((10 * a) + (M 93 k)) + 1)), some (yi (k + 1))]) (st' := []) (M' := M) (N' := N) rfl ?_
      refine ih (by omega) (by omega) ?_
      exact kk
theorem m_rowDigits {S : XS} {M N : YM} {n w : Int} (hn : 0 ≤ n ∧ n ≤ 4) (hR : repR n w (M 93)) : rm S 0 166 [yr 75, yi n] M N (fun r M' N' => ∃ v : Int, some (yi v) = r ∧ (v = dgs n.toNat w 1 0) ∧ M = M' ∧ N = N') := by
  refine ⟨xe_166, m_166, Nat.le_of_ble_eq_true rfl, ?_⟩
  refine r_run 4 (pc' := 4) (ls' := [some (yr 75), some (yi n), some (yi 0), some (yi 0)]) (st' := []) (M' := M) (N' := N) rfl ?_
  exact m_rd_l (j := n.toNat) hn (Int.le_refl 0) (by omega) ⟨_, rfl, mdg_rep hn hR, rfl, rfl⟩
theorem m_nx_in {S : XS} {d : Nat} {n k v : Int} {N : YM} {Q : Option YV → YM → YM → Prop} (hn : 0 ≤ n ∧ n ≤ 4) {j : Nat} : ∀ {o : Int} {M : YM}, 0 ≤ o → o + j = n → (∀ M', (∀ c, c ≠ 93 → M' c = M c) → (∀ i, i < o → M' 93 i = M 93 i) → (∀ i, o ≤ i → i < n → M' 93 i = v) → Q (some (yi 1)) M' N) → ry S d 164 30 [some (yr 75), some (yi n), some (yi k), some (yi v), some (yi o)] [] M N Q := by
  induction j with
  | zero =>
    intro o M h0 h1 kk
    refine r_run 2 (pc' := 33) (ls' := [some (yr 75), some (yi n), some (yi k), some (yi v), some (yi o)]) (st' := [yi n, yi o]) (M' := M) (N' := N) rfl ?_
    refine r_icmp_ge (pc := 33) f_164_33 (by omega) (by omega) (fun h33 => ?_) (fun h33 => ?_)
    · refine r_run 1 (pc' := 51) (ls' := [some (yr 75), some (yi n), some (yi k), some (yi v), some (yi o)]) (st' := [yi 1]) (M' := M) (N' := N) rfl ?_
      refine r_zret m_164 rfl f_164_51 (by omega) ?_
      exact kk M (fun c _ => rfl) (fun i _ => rfl) (fun i i0 i1 => by omega)
    · exfalso; omega
  | succ j ih =>
    intro o M h0 h1 kk
    refine r_run 2 (pc' := 33) (ls' := [some (yr 75), some (yi n), some (yi k), some (yi v), some (yi o)]) (st' := [yi n, yi o]) (M' := M) (N' := N) rfl ?_
    refine r_icmp_ge (pc := 33) f_164_33 (by omega) (by omega) (fun h33 => ?_) (fun h33 => ?_)
    · exfalso; omega
    · refine r_run 4 (pc' := 43) (ls' := [some (yr 75), some (yi n), some (yi k), some (yi v), some (yi o)]) (st' := [yi v, yi o, yr 93]) (M' := M) (N' := N) rfl ?_
      refine r_iast (n := 4) f_164_43 (by decide) (by decide) (by decide) (by omega) ?_
      refine r_run 2 (pc' := 30) (ls' := [some (yr 75), some (yi n), some (yi k), some (yi v), some (yi (o + 1))]) (st' := []) (M' := (yu M 93 o v)) (N' := N) rfl ?_
      refine ih (by omega) (by omega) fun M' g1 g2 g3 => kk M' (fun c hc => by rw [g1 c hc, yu_rn hc]) (fun i i0 => ?_) (fun i i0 i1 => ?_)
      · rw [g2 i (by omega), yu_ne (by omega)]
      · by_cases hi : i = o
        · rw [hi, g2 o (by omega), yu_at]
        · exact g3 i (by omega) i1
theorem m_nx_l {S : XS} {d : Nat} {n : Int} {l3 l4 : Option YV} {M N : YM} (hn : 0 ≤ n ∧ n ≤ 4) (hr : ∀ k, 0 ≤ k → k < n → 0 ≤ M 93 k ∧ M 93 k ≤ 5) {j : Nat} : ∀ {k : Int}, k = (j : Int) - 1 → k < n → ry S d 164 4 [some (yr 75), some (yi n), some (yi k), l3, l4] [] M N (fun r M' N' => ∃ v : Int, some (yi v) = r ∧ ((v = 0 ∧ nxF (M 93) j = -1 ∧ M = M') ∨ (v = 1 ∧ 0 ≤ nxF (M 93) j ∧ (∀ c, c ≠ 93 → M' c = M c) ∧ ∀ i, 0 ≤ i → i < n → M' 93 i = nxR (M 93) n (nxF (M 93) j) i)) ∧ N = N') := by
  induction j with
  | zero =>
    intro k h0 h1
    refine r_run 1 (pc' := 5) (ls' := [some (yr 75), some (yi n), some (yi k), l3, l4]) (st' := [yi k]) (M' := M) (N' := N) rfl ?_
    refine r_if_lt (pc := 5) f_164_5 (by omega) (fun h5 => ?_) (fun h5 => ?_)
    · refine r_run 1 (pc' := 59) (ls' := [some (yr 75), some (yi n), some (yi k), l3, l4]) (st' := [yi 0]) (M' := M) (N' := N) rfl ?_
      refine r_zret m_164 rfl f_164_59 (by omega) ?_
      exact ⟨_, rfl, Or.inl ⟨rfl, rfl, rfl⟩, rfl⟩
    · exfalso; omega
  | succ j ih =>
    intro k h0 h1
    have hk := hr k (by omega) h1
    refine r_run 1 (pc' := 5) (ls' := [some (yr 75), some (yi n), some (yi k), l3, l4]) (st' := [yi k]) (M' := M) (N' := N) rfl ?_
    refine r_if_lt (pc := 5) f_164_5 (by omega) (fun h5 => ?_) (fun h5 => ?_)
    · exfalso; omega
    · refine r_run 3 (pc' := 13) (ls' := [some (yr 75), some (yi n), some (yi k), l3, l4]) (st' := [yi k, yr 93]) (M' := M) (N' := N) rfl ?_
      refine r_iald (n := 4) f_164_13 (by decide) (by decide) (by decide) (by omega) ?_
      refine r_run 1 (pc' := 15) (ls' := [some (yr 75), some (yi n), some (yi k), l3, l4]) (st' := [yi 5, yi (M 93 k)]) (M' := M) (N' := N) rfl ?_
      refine r_icmp_ge (pc := 15) f_164_15 (by omega) (by omega) (fun h15 => ?_) (fun h15 => ?_)
      · refine r_run 2 (pc' := 4) (ls' := [some (yr 75), some (yi n), some (yi (k + (-1))), l3, l4]) (st' := []) (M' := M) (N' := N) rfl ?_
        have e : nxF (M 93) (j + 1) = nxF (M 93) j := by
          show (if M 93 (j : Int) < 5 then (j : Int) else nxF (M 93) j) = _
          rw [if_neg (by rw [show (j : Int) = k by omega]; omega)]
        rw [e]
        exact ih (by omega) (by omega)
      · refine r_run 3 (pc' := 23) (ls' := [some (yr 75), some (yi n), some (yi k), l3, l4]) (st' := [yi k, yr 93]) (M' := M) (N' := N) rfl ?_
        refine r_iald (n := 4) f_164_23 (by decide) (by decide) (by decide) (by omega) ?_
        refine r_run 5 (pc' := 30) (ls' := [some (yr 75), some (yi n), some (yi k), some (yi ((M 93 k) + 1)), some (yi k)]) (st' := []) (M' := M) (N' := N) rfl ?_
        have e : nxF (M 93) (j + 1) = k := by
          show (if M 93 (j : Int) < 5 then (j : Int) else nxF (M 93) j) = k
          rw [show (j : Int) = k by omega, if_pos (by omega)]
        rw [e]
        refine m_nx_in (j := (n - k).toNat) hn (by omega) (by omega) fun M' g1 g2 g3 => ⟨1, rfl, Or.inr ⟨rfl, by omega, g1, fun i i0 i1 => ?_⟩, rfl⟩
        unfold nxR
        by_cases hi : k ≤ i
        · rw [if_pos ⟨hi, i1⟩]; exact g3 i hi i1
        · rw [if_neg (by omega)]; exact g2 i (by omega)
theorem m_nextRow {S : XS} {M N : YM} {n : Int} (hn : 0 ≤ n ∧ n ≤ 4) (hr : ∀ k, 0 ≤ k → k < n → 0 ≤ M 93 k ∧ M 93 k ≤ 5) : rm S 0 164 [yr 75, yi n] M N (fun r M' N' => ∃ v : Int, some (yi v) = r ∧ ((v = 0 ∧ nxF (M 93) n.toNat = -1 ∧ M = M') ∨ (v = 1 ∧ 0 ≤ nxF (M 93) n.toNat ∧ (∀ c, c ≠ 93 → M' c = M c) ∧ ∀ i, 0 ≤ i → i < n → M' 93 i = nxR (M 93) n (nxF (M 93) n.toNat) i)) ∧ N = N') := by
  refine ⟨xe_164, m_164, Nat.le_of_ble_eq_true rfl, ?_⟩
  refine r_run 4 (pc' := 4) (ls' := [some (yr 75), some (yi n), some (yi (n - 1)), none, none]) (st' := []) (M' := M) (N' := N) rfl ?_
  exact m_nx_l (j := n.toNat) hn hr (by omega) (by omega)
theorem m_bu_in {S : XS} {d : Nat} {n q : Int} {M N : YM} {Q : Option YV → YM → YM → Prop} (hn : 0 ≤ n ∧ n ≤ 4) (hq : in6 q) (hr : ∀ k, 0 ≤ k → k < n → 0 ≤ M 93 k ∧ M 93 k ≤ 5) {j : Nat} : ∀ {k a : Int}, 0 ≤ k → k + j = n → ry S d 165 49 [some (yr 75), some (yi n), some (yi q), some (yi (mcn (M 93) q j k a)), some (yi n)] [] M N Q → ry S d 165 18 [some (yr 75), some (yi n), some (yi q), some (yi a), some (yi k)] [] M N Q := by
  induction j with
  | zero =>
    intro k a h0 h1 kk
    refine r_run 2 (pc' := 21) (ls' := [some (yr 75), some (yi n), some (yi q), some (yi a), some (yi k)]) (st' := [yi n, yi k]) (M' := M) (N' := N) rfl ?_
    refine r_icmp_ge (pc := 21) f_165_21 (by omega) (by omega) (fun h21 => ?_) (fun h21 => ?_)
    · rw [show k = n by omega]
      exact kk
    · exfalso; omega
  | succ j ih =>
    intro k a h0 h1 kk
    have hk := hr k h0 (by omega)
    refine r_run 2 (pc' := 21) (ls' := [some (yr 75), some (yi n), some (yi q), some (yi a), some (yi k)]) (st' := [yi n, yi k]) (M' := M) (N' := N) rfl ?_
    refine r_icmp_ge (pc := 21) f_165_21 (by omega) (by omega) (fun h21 => ?_) (fun h21 => ?_)
    · exfalso; omega
    · refine r_run 4 (pc' := 31) (ls' := [some (yr 75), some (yi n), some (yi q), some (yi a), some (yi k)]) (st' := [yi k, yr 93, yi a]) (M' := M) (N' := N) rfl ?_
      refine r_iald (n := 4) f_165_31 (by decide) (by decide) (by decide) (by omega) ?_
      refine r_run 1 (pc' := 33) (ls' := [some (yr 75), some (yi n), some (yi q), some (yi a), some (yi k)]) (st' := [yi q, yi (M 93 k), yi a]) (M' := M) (N' := N) rfl ?_
      refine r_icmp_ne (pc := 33) f_165_33 (by omega) (by omega) (fun h33 => ?_) (fun h33 => ?_)
      · refine r_run 5 (pc' := 18) (ls' := [some (yr 75), some (yi n), some (yi q), some (yi (a + 0)), some (yi (k + 1))]) (st' := []) (M' := M) (N' := N) rfl ?_
        rw [show mcn (M 93) q (j + 1) k a = mcn (M 93) q j (k + 1) (a + 0) by show mcn (M 93) q j (k + 1) (a + (if M 93 k = q then 1 else 0)) = _; rw [if_neg (by omega)]] at kk
        exact ih (by omega) (by omega) kk
      · refine r_run 6 (pc' := 18) (ls' := [some (yr 75), some (yi n), some (yi q), some (yi (a + 1)), some (yi (k + 1))]) (st' := []) (M' := M) (N' := N) rfl ?_
        rw [show mcn (M 93) q (j + 1) k a = mcn (M 93) q j (k + 1) (a + 1) by show mcn (M 93) q j (k + 1) (a + (if M 93 k = q then 1 else 0)) = _; rw [if_pos (by omega)]] at kk
        exact ih (by omega) (by omega) kk
theorem m_bu_l {S : XS} {d : Nat} {n w : Int} {N : YM} {Q : Option YV → YM → YM → Prop} (hn : 0 ≤ n ∧ n ≤ 4) {j : Nat} : ∀ {q : Int} {M : YM} {l3 l4 : Option YV}, 0 ≤ q → q + j = 6 → repR n w (M 93) → (∀ k, 0 ≤ k → k < n → 0 ≤ M 93 k ∧ M 93 k ≤ 5) → (∀ M' l3 l4, (∀ c, c ≠ 90 → c ≠ 91 → M' c = M c) → (∀ i, 0 ≤ i → i < q → M' 90 i = M 90 i ∧ M' 91 i = M 91 i) → (∀ i, q ≤ i → i < 6 → M' 90 i = M 90 i + cnt n.toNat w i / 2 ∧ M' 91 i = M 91 i - (cnt n.toNat w i + 1) / 2) → ry S d 165 81 [some (yr 75), some (yi n), some (yi 6), l3, l4] [] M' N Q) → ry S d 165 7 [some (yr 75), some (yi n), some (yi q), l3, l4] [] M N Q := by
  induction j with
  | zero =>
    intro q M l3 l4 h0 h1 hR hr kk
    refine r_run 2 (pc' := 10) (ls' := [some (yr 75), some (yi n), some (yi q), l3, l4]) (st' := [yi 6, yi q]) (M' := M) (N' := N) rfl ?_
    refine r_icmp_ge (pc := 10) f_165_10 (by omega) (by omega) (fun h10 => ?_) (fun h10 => ?_)
    · have e : q = 6 := by omega
      subst e
      exact kk M l3 l4 (fun c _ _ => rfl) (fun i _ _ => ⟨rfl, rfl⟩) (fun i i0 i1 => by omega)
    · exfalso; omega
  | succ j ih =>
    intro q M l3 l4 h0 h1 hR hr kk
    refine r_run 2 (pc' := 10) (ls' := [some (yr 75), some (yi n), some (yi q), l3, l4]) (st' := [yi 6, yi q]) (M' := M) (N' := N) rfl ?_
    refine r_icmp_ge (pc := 10) f_165_10 (by omega) (by omega) (fun h10 => ?_) (fun h10 => ?_)
    · exfalso; omega
    · refine r_run 4 (pc' := 18) (ls' := [some (yr 75), some (yi n), some (yi q), some (yi 0), some (yi 0)]) (st' := []) (M' := M) (N' := N) rfl ?_
      refine m_bu_in (j := n.toNat) hn ⟨h0, by omega⟩ hr (Int.le_refl 0) (by omega) ?_
      rw [mcn_rep hn hR]
      have ci := @cnt_in n.toNat w q
      refine r_run 4 (pc' := 55) (ls' := [some (yr 75), some (yi n), some (yi q), some (yi (cnt n.toNat w q)), some (yi n)]) (st' := [yi q, yr 90, yi q, yr 90]) (M' := M) (N' := N) rfl ?_
      refine r_iald (n := 6) f_165_55 (by decide) (by decide) (by decide) (by omega) ?_
      refine r_run 2 (pc' := 58) (ls' := [some (yr 75), some (yi n), some (yi q), some (yi (cnt n.toNat w q)), some (yi n)]) (st' := [yi 2, yi (cnt n.toNat w q), yi (M 90 q), yi q, yr 90]) (M' := M) (N' := N) rfl ?_
      refine r_idiv f_165_58 (by omega) (by omega) ?_
      refine r_run 1 (pc' := 60) (ls' := [some (yr 75), some (yi n), some (yi q), some (yi (cnt n.toNat w q)), some (yi n)]) (st' := [yi ((M 90 q) + ((cnt n.toNat w q) / 2)), yi q, yr 90]) (M' := M) (N' := N) rfl ?_
      refine r_iast (n := 6) f_165_60 (by decide) (by decide) (by decide) (by omega) ?_
      refine r_run 4 (pc' := 67) (ls' := [some (yr 75), some (yi n), some (yi q), some (yi (cnt n.toNat w q)), some (yi n)]) (st' := [yi q, yr 91, yi q, yr 91]) (M' := (yu M 90 q ((M 90 q) + ((cnt n.toNat w q) / 2)))) (N' := N) rfl ?_
      refine r_iald (n := 6) f_165_67 (by decide) (by decide) (by decide) (by omega) ?_
      refine r_run 4 (pc' := 72) (ls' := [some (yr 75), some (yi n), some (yi q), some (yi (cnt n.toNat w q)), some (yi n)]) (st' := [yi 2, yi ((cnt n.toNat w q) + 1), yi (M 91 q), yi q, yr 91]) (M' := (yu M 90 q ((M 90 q) + ((cnt n.toNat w q) / 2)))) (N' := N) rfl ?_
      refine r_idiv f_165_72 (by omega) (by omega) ?_
      refine r_run 1 (pc' := 74) (ls' := [some (yr 75), some (yi n), some (yi q), some (yi (cnt n.toNat w q)), some (yi n)]) (st' := [yi ((M 91 q) - (((cnt n.toNat w q) + 1) / 2)), yi q, yr 91]) (M' := (yu M 90 q ((M 90 q) + ((cnt n.toNat w q) / 2)))) (N' := N) rfl ?_
      refine r_iast (n := 6) f_165_74 (by decide) (by decide) (by decide) (by omega) ?_
      refine r_run 2 (pc' := 7) (ls' := [some (yr 75), some (yi n), some (yi (q + 1)), some (yi (cnt n.toNat w q)), some (yi n)]) (st' := []) (M' := (yu (yu M 90 q ((M 90 q) + ((cnt n.toNat w q) / 2))) 91 q ((M 91 q) - (((cnt n.toNat w q) + 1) / 2)))) (N' := N) rfl ?_
      generalize hM4 : (yu (yu M 90 q ((M 90 q) + ((cnt n.toNat w q) / 2))) 91 q ((M 91 q) - (((cnt n.toNat w q) + 1) / 2))) = M4
      have f4 : ∀ c, c ≠ 90 → c ≠ 91 → M4 c = M c := fun c h1 h2 => by rw [← hM4, yu_rn h2, yu_rn h1]
      have f5 : ∀ i, i ≠ q → M4 90 i = M 90 i ∧ M4 91 i = M 91 i := fun i hi => ⟨by rw [← hM4, yu_ne (by omega), yu_ne (by omega)], by rw [← hM4, yu_ne (by omega), yu_ne (by omega)]⟩
      have f6 : M4 90 q = M 90 q + cnt n.toNat w q / 2 := by rw [← hM4, yu_ne (by omega), yu_at]
      have f7 : M4 91 q = M 91 q - (cnt n.toNat w q + 1) / 2 := by rw [← hM4, yu_at]
      have g93 : M4 93 = M 93 := f4 93 (by decide) (by decide)
      refine ih (l3 := some (yi (cnt n.toNat w q))) (l4 := some (yi n)) (by omega) (by omega) (by rw [g93]; exact hR) (by rw [g93]; exact hr) fun M' l3 l4 g1 g2 g3 => kk M' l3 l4 (fun c h1 h2 => by rw [g1 c h1 h2, f4 c h1 h2]) (fun i i0 i1 => ?_) (fun i i0 i1 => ?_)
      · have a := g2 i i0 (by omega)
        have b := f5 i (by omega)
        exact ⟨by rw [a.1, b.1], by rw [a.2, b.2]⟩
      · by_cases hi : i = q
        · have a := g2 q h0 (by omega)
          rw [hi]
          exact ⟨by rw [a.1, f6], by rw [a.2, f7]⟩
        · have a := g3 i (by omega) i1
          have b := f5 i hi
          rw [b.1, b.2] at a
          exact a
theorem m_buys {S : XS} {M N : YM} {w n : Int} (R : Rel M) (hn : 0 ≤ n ∧ n ≤ 4) (hR : repR n w (M 93)) (hr : ∀ k, 0 ≤ k → k < n → 0 ≤ M 93 k ∧ M 93 k ≤ 5) : rm S 3 165 [yr 75, yi n] M N (fun r M' N' => ∃ v : Int, some (yi v) = r ∧ (v = xV M (bB M n w) (bE M n w) ∧ (v = 0 ∨ v = 1) ∧ (v = 1 → mAt M' (xT M (bB M n w) (bE M n w))) ∧ M' 93 = M 93 ∧ Rel M' ∧ eqn M M') ∧ N = N') := by
  refine ⟨xe_165, m_165, Nat.le_of_ble_eq_true rfl, ?_⟩
  refine r_run 2 (pc' := 2) (ls' := [some (yr 75), some (yi n), none, none, none]) (st' := [yi 0, yr 75]) (M' := M) (N' := N) rfl ?_
  refine r_virtual (mj := 145) (b := 75) (as := [yi 0]) (rest := []) f_165_2 (by decide) rfl m_145 (by decide) (by decide) (by decide) rfl rfl (Nat.le_of_ble_eq_true rfl) (by omega) (m_leave0 (w := 0) R) ?_
  rintro _ M3 _ ⟨rfl, ⟨f3, b3⟩, rfl⟩
  refine r_run 2 (pc' := 7) (ls' := [some (yr 75), some (yi n), some (yi 0), none, none]) (st' := []) (M' := M3) (N' := N) rfl ?_
  have e93 : M3 93 = M 93 := f3 93 (by decide) (by decide)
  refine m_bu_l (w := w) (j := 6) hn (Int.le_refl 0) rfl (by rw [e93]; exact hR) (by rw [e93]; exact hr) fun M5 l3 l4 g1 _ g3 => ?_
  have q5 : eqn M M5 := eqn.of fun c hc => by rw [g1 c (by omega) (by omega), f3 c (by omega) (by omega)]
  have R5 := R.congr q5
  have b5 : ∀ q, in6 q → M5 90 q = bB M n w q ∧ M5 91 q = bE M n w q ∧ (0 ≤ bB M n w q ∧ bB M n w q ≤ 1001) ∧ (-2 ≤ bE M n w q ∧ bE M n w q ≤ 999) := fun q hq => by
    have a := g3 q hq.1 (by omega)
    have b := b3 q hq
    rw [b.1, b.2] at a
    exact ⟨a.1, a.2, bB_in R hn q hq⟩
  refine r_run 2 (pc' := 83) (ls' := [some (yr 75), some (yi n), some (yi 6), l3, l4]) (st' := [yi 0, yr 75]) (M' := M5) (N' := N) rfl ?_
  refine r_virtual (mj := 147) (b := 75) (as := [yi 0]) (rest := []) f_165_83 (by decide) rfl m_147 (by decide) (by decide) (by decide) rfl rfl (Nat.le_of_ble_eq_true rfl) (by omega) (m_cutX (B := bB M n w) (E := bE M n w) R5 b5) ?_
  rintro _ M6 _ ⟨v6, rfl, ⟨hv6, v01, a6, f6, R6, e6⟩, rfl⟩
  rw [q5.eqs.eX] at hv6
  rw [q5.eqs.eZ] at a6
  refine r_zret m_165 rfl f_165_86 (by omega) ?_
  exact ⟨_, rfl, ⟨hv6, v01, a6, by rw [f6 93 (by decide), g1 93 (by decide) (by decide), f3 93 (by decide) (by decide)], R6, q5.trans e6⟩, rfl⟩
