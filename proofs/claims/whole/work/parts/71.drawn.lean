/-! drawn by lot -/
def lotN (s : Int) : Nat → Int
  | 0 => s + 1
  | k + 1 => lotN s k * 48271 % 2147483647
def dwV (O : Int → Int → Int) (s q : Int) : Int := -O q 6 + lotN s (q.toNat + 1) % (O 6 q + O q 6 + 1)
theorem lotN_in {s : Int} (h : 0 ≤ s ∧ s ≤ 100100) (k : Nat) : 0 ≤ lotN s k ∧ lotN s k < 2147483647 := by
  cases k with
  | zero => show 0 ≤ s + 1 ∧ s + 1 < 2147483647; omega
  | succ k =>
    exact ⟨Int.emod_nonneg _ (by decide), Int.emod_lt_of_pos _ (by decide)⟩
theorem dwV_in {O : Int → Int → Int} (h : oIn O) {s : Int} {q : Int} (hq : in6 q) : in9 (dwV O s q) := by
  have a := h q hq
  have b := Int.emod_nonneg (lotN s (q.toNat + 1)) (show O 6 q + O q 6 + 1 ≠ 0 by omega)
  have c := Int.emod_lt_of_pos (lotN s (q.toNat + 1)) (show 0 < O 6 q + O q 6 + 1 by omega)
  unfold dwV
  omega
theorem lotN_st {s z : Int} {q : Int} (h : 0 ≤ q) (e : z = lotN s q.toNat) : z * 48271 % 2147483647 = lotN s (q.toNat + 1) ∧ lotN s (q.toNat + 1) = lotN s (q + 1).toNat := by
  constructor
  · rw [e]; rfl
  · rw [show (q + 1).toNat = q.toNat + 1 by omega]
/-- whether it counts as met -/
def mtW (M : YM) (O : Int → Int → Int) (s : Int) : Int := if txT M (M 75 10) 2 (dwV O s) = 0 then 0 else 1
theorem mtW_in {M : YM} {O : Int → Int → Int} {s : Int} : mtW M O s = 0 ∨ mtW M O s = 1 := by
  unfold mtW
  split <;> omega
theorem eqn.eMt {M M' : YM} (e : eqn M M') : mtW M' = mtW M := by
  funext O s
  unfold mtW
  rw [e.e10, e.eqx.eT]
theorem c_draw_l {S : XS} {d : Nat} {s : Int} {O : Int → Int → Int} {N : YM} {Q : Option YV → YM → YM → Prop} (hd : 1 ≤ d) (hs : 0 ≤ s ∧ s ≤ 100100) {j : Nat} : ∀ {q z : Int} {M : YM}, 0 ≤ q → q + j = 6 → z = lotN s q.toNat → cAt M O → (∀ M', (∀ c, c ≠ 39 → M' c = M c) → (∀ i, 0 ≤ i → i < q → M' 39 i = M 39 i) → (∀ i, q ≤ i → i < 6 → M' 39 i = dwV O s i) → Q none M' N) → ry S d 109 8 [some (yr 0), some (yi s), some (yj z), none, some (yi q)] [] M N Q := by
  induction j with
  | zero =>
    intro q z M h0 h1 hz hA kk
    refine r_run 2 (pc' := 12) (ls' := [some (yr 0), some (yi s), some (yj z), none, some (yi q)]) (st' := [yi 6, yi q]) (M' := M) (N' := N) rfl ?_
    refine r_icmp_ge (pc := 12) f_109_12 (by omega) (by omega) (fun h12 => ?_) (fun h12 => ?_)
    · refine r_vret m_109 rfl f_109_66 ?_
      exact kk M (fun c _ => rfl) (fun i _ _ => rfl) (fun i i0 i1 => by omega)
    · exfalso; omega
  | succ j ih =>
    intro q z M h0 h1 hz hA kk
    have z1 := lotN_in hs q.toNat
    obtain ⟨hz1, hz2⟩ := lotN_st h0 hz
    have z2 := lotN_in hs (q.toNat + 1)
    rw [← hz] at z1
    rw [← hz1] at z2
    obtain ⟨a1, a2, a3⟩ := hA.1 q ⟨h0, by omega⟩
    refine r_run 2 (pc' := 12) (ls' := [some (yr 0), some (yi s), some (yj z), none, some (yi q)]) (st' := [yi 6, yi q]) (M' := M) (N' := N) rfl ?_
    refine r_icmp_ge (pc := 12) f_109_12 (by omega) (by omega) (fun h12 => ?_) (fun h12 => ?_)
    · exfalso; omega
    · refine r_run 4 (pc' := 23) (ls' := [some (yr 0), some (yi s), some (yj z), none, some (yi q)]) (st' := [yj 2147483647, yj (z * 48271)]) (M' := M) (N' := N) rfl ?_
      refine r_lrem f_109_23 (by omega) (by omega) ?_
      refine r_run 8 (pc' := 40) (ls' := [some (yr 0), some (yi s), some (yj ((z * 48271) % 2147483647)), none, some (yi q)]) (st' := [yi q, yr 36, yi q, yr 39]) (M' := M) (N' := N) rfl ?_
      refine r_iald (n := 6) f_109_40 (by decide) (by decide) (by decide) (by omega) ?_
      refine r_run 5 (pc' := 49) (ls' := [some (yr 0), some (yi s), some (yj ((z * 48271) % 2147483647)), none, some (yi q)]) (st' := [yi q, yr 33, yi 1, yj ((z * 48271) % 2147483647), yi (M 36 q), yi q, yr 39]) (M' := M) (N' := N) rfl ?_
      refine r_virtual (mj := 40) (b := 33) (as := [yi q]) (rest := [yi 1, yj ((z * 48271) % 2147483647), yi (M 36 q), yi q, yr 39]) f_109_49 (by decide) rfl m_40 (by decide) (by decide) (by decide) rfl rfl (Nat.le_of_ble_eq_true rfl) (by omega) (c_size (by omega)) ?_
      rintro _ _ _ ⟨v49, rfl, hv49, rfl, rfl⟩
      refine r_max f_109_52 (by omega) (by omega) (Nat.le_of_ble_eq_true rfl) (by omega) (fun v52 hv52 => ?_)
      refine r_i2l f_109_55 (by omega) ?_
      refine r_lrem f_109_56 (by omega) (by omega) ?_
      refine r_run 2 (pc' := 59) (ls' := [some (yr 0), some (yi s), some (yj ((z * 48271) % 2147483647)), none, some (yi q)]) (st' := [yi ((M 36 q) + (((z * 48271) % 2147483647) % v52)), yi q, yr 39]) (M' := M) (N' := N) rfl ?_
      refine r_iast (n := 6) f_109_59 (by decide) (by decide) (by decide) (by omega) ?_
      refine r_run 2 (pc' := 8) (ls' := [some (yr 0), some (yi s), some (yj ((z * 48271) % 2147483647)), none, some (yi (q + 1))]) (st' := []) (M' := (yu M 39 q ((M 36 q) + (((z * 48271) % 2147483647) % v52)))) (N' := N) rfl ?_
      have hc : dwV O s q = (((M 36 q) + (((z * 48271) % 2147483647) % v52))) := by
        unfold dwV
        rw [← hz1]
        rw [show v52 = O 6 q + O q 6 + 1 by omega, a1]
      rw [yu_row, ← hc]
      refine ih (by omega) (by omega) (hz1.trans hz2) (hA.fr (fun c hc => yrow_ne (by omega))) fun M' g1 g2 g3 => kk M' (fun c hc => by rw [g1 c hc, yrow_ne hc]) (fun i i0 i1 => ?_) (fun i i0 i1 => ?_)
      · rw [g2 i i0 (by omega), yrow_at, up_ne (by omega)]
      · by_cases hi : i = q
        · rw [hi, g2 q h0 (by omega), yrow_at, up_at]
        · exact g3 i (by omega) i1
theorem c_draw {S : XS} {M N : YM} {s : Int} {O : Int → Int → Int} (hs : 0 ≤ s ∧ s ≤ 100100) (R : Rel M) (hA : cAt M O) : rm S 1 109 [yr 0, yi s] M N (fun r M' N' => none = r ∧ ((∀ q, in6 q → M' 39 q = dwV O s q) ∧ (∀ c, c ≠ 39 → M' c = M c) ∧ Rel M' ∧ eqn M M') ∧ N = N') := by
  refine ⟨xe_109, m_109, Nat.le_of_ble_eq_true rfl, ?_⟩
  refine r_run 3 (pc' := 3) (ls' := [some (yr 0), some (yi s), none, none, none]) (st' := [yi (s + 1)]) (M' := M) (N' := N) rfl ?_
  refine r_i2l f_109_3 (by omega) ?_
  refine r_run 3 (pc' := 8) (ls' := [some (yr 0), some (yi s), some (yj (s + 1)), none, some (yi 0)]) (st' := []) (M' := M) (N' := N) rfl ?_
  refine c_draw_l (O := O) (j := 6) (by omega) hs (Int.le_refl 0) rfl rfl hA fun M' g1 _ g3 => ?_
  have e : eqn M M' := eqn.of fun c hc => g1 c (by omega)
  exact ⟨rfl, ⟨fun q hq => g3 q hq.1 (by omega), g1, R.congr e, e⟩, rfl⟩
theorem m_draw_l {S : XS} {d : Nat} {s : Int} {O : Int → Int → Int} {N : YM} {Q : Option YV → YM → YM → Prop} (hd : 1 ≤ d) (hs : 0 ≤ s ∧ s ≤ 100100) {j : Nat} : ∀ {q z : Int} {M : YM}, 0 ≤ q → q + j = 6 → z = lotN s q.toNat → mAt M O → (∀ M', (∀ c, c ≠ 89 → M' c = M c) → (∀ i, 0 ≤ i → i < q → M' 89 i = M 89 i) → (∀ i, q ≤ i → i < 6 → M' 89 i = dwV O s i) → Q none M' N) → ry S d 181 8 [some (yr 75), some (yi s), some (yj z), none, some (yi q)] [] M N Q := by
  induction j with
  | zero =>
    intro q z M h0 h1 hz hA kk
    refine r_run 2 (pc' := 12) (ls' := [some (yr 75), some (yi s), some (yj z), none, some (yi q)]) (st' := [yi 6, yi q]) (M' := M) (N' := N) rfl ?_
    refine r_icmp_ge (pc := 12) f_181_12 (by omega) (by omega) (fun h12 => ?_) (fun h12 => ?_)
    · refine r_vret m_181 rfl f_181_64 ?_
      exact kk M (fun c _ => rfl) (fun i _ _ => rfl) (fun i i0 i1 => by omega)
    · exfalso; omega
  | succ j ih =>
    intro q z M h0 h1 hz hA kk
    have z1 := lotN_in hs q.toNat
    obtain ⟨hz1, hz2⟩ := lotN_st h0 hz
    have z2 := lotN_in hs (q.toNat + 1)
    rw [← hz] at z1
    rw [← hz1] at z2
    obtain ⟨m1, m2, m3⟩ := hA.lh (q := q) ⟨h0, by omega⟩
    refine r_run 2 (pc' := 12) (ls' := [some (yr 75), some (yi s), some (yj z), none, some (yi q)]) (st' := [yi 6, yi q]) (M' := M) (N' := N) rfl ?_
    refine r_icmp_ge (pc := 12) f_181_12 (by omega) (by omega) (fun h12 => ?_) (fun h12 => ?_)
    · exfalso; omega
    · refine r_run 4 (pc' := 23) (ls' := [some (yr 75), some (yi s), some (yj z), none, some (yi q)]) (st' := [yj 2147483647, yj (z * 48271)]) (M' := M) (N' := N) rfl ?_
      refine r_lrem f_181_23 (by omega) (by omega) ?_
      refine r_run 6 (pc' := 34) (ls' := [some (yr 75), some (yi s), some (yj ((z * 48271) % 2147483647)), none, some (yi q)]) (st' := [yi q, yr 75, yi q, yr 89]) (M' := M) (N' := N) rfl ?_
      refine r_virtual (mj := 149) (b := 75) (as := [yi q]) (rest := [yi q, yr 89]) f_181_34 (by decide) rfl m_149 (by decide) (by decide) (by decide) rfl rfl (Nat.le_of_ble_eq_true rfl) (by omega) (m_low (by omega)) ?_
      rintro _ _ _ ⟨v34, rfl, hv34, rfl, rfl⟩
      refine r_run 3 (pc' := 41) (ls' := [some (yr 75), some (yi s), some (yj ((z * 48271) % 2147483647)), none, some (yi q)]) (st' := [yi q, yr 75, yj ((z * 48271) % 2147483647), yi v34, yi q, yr 89]) (M' := M) (N' := N) rfl ?_
      refine r_virtual (mj := 150) (b := 75) (as := [yi q]) (rest := [yj ((z * 48271) % 2147483647), yi v34, yi q, yr 89]) f_181_41 (by decide) rfl m_150 (by decide) (by decide) (by decide) rfl rfl (Nat.le_of_ble_eq_true rfl) (by omega) (m_high (by omega)) ?_
      rintro _ _ _ ⟨v41, rfl, hv41, rfl, rfl⟩
      refine r_run 2 (pc' := 47) (ls' := [some (yr 75), some (yi s), some (yj ((z * 48271) % 2147483647)), none, some (yi q)]) (st' := [yi q, yr 75, yi v41, yj ((z * 48271) % 2147483647), yi v34, yi q, yr 89]) (M' := M) (N' := N) rfl ?_
      refine r_virtual (mj := 149) (b := 75) (as := [yi q]) (rest := [yi v41, yj ((z * 48271) % 2147483647), yi v34, yi q, yr 89]) f_181_47 (by decide) rfl m_149 (by decide) (by decide) (by decide) rfl rfl (Nat.le_of_ble_eq_true rfl) (by omega) (m_low (by omega)) ?_
      rintro _ _ _ ⟨v47, rfl, hv47, rfl, rfl⟩
      refine r_run 3 (pc' := 53) (ls' := [some (yr 75), some (yi s), some (yj ((z * 48271) % 2147483647)), none, some (yi q)]) (st' := [yi ((v41 - v47) + 1), yj ((z * 48271) % 2147483647), yi v34, yi q, yr 89]) (M' := M) (N' := N) rfl ?_
      refine r_i2l f_181_53 (by omega) ?_
      refine r_lrem f_181_54 (by omega) (by omega) ?_
      refine r_run 2 (pc' := 57) (ls' := [some (yr 75), some (yi s), some (yj ((z * 48271) % 2147483647)), none, some (yi q)]) (st' := [yi (v34 + (((z * 48271) % 2147483647) % ((v41 - v47) + 1))), yi q, yr 89]) (M' := M) (N' := N) rfl ?_
      refine r_iast (n := 6) f_181_57 (by decide) (by decide) (by decide) (by omega) ?_
      refine r_run 2 (pc' := 8) (ls' := [some (yr 75), some (yi s), some (yj ((z * 48271) % 2147483647)), none, some (yi (q + 1))]) (st' := []) (M' := (yu M 89 q (v34 + (((z * 48271) % 2147483647) % ((v41 - v47) + 1))))) (N' := N) rfl ?_
      have hc : dwV O s q = ((v34 + (((z * 48271) % 2147483647) % ((v41 - v47) + 1)))) := by
        unfold dwV
        rw [← hz1]
        rw [hv34, hv41, hv47, m1, m2, show O 6 q - -O q 6 + 1 = O 6 q + O q 6 + 1 by omega]
      rw [yu_row, ← hc]
      refine ih (by omega) (by omega) (hz1.trans hz2) (hA.fr (yrow_ne (by decide))) fun M' g1 g2 g3 => kk M' (fun c hc => by rw [g1 c hc, yrow_ne hc]) (fun i i0 i1 => ?_) (fun i i0 i1 => ?_)
      · rw [g2 i i0 (by omega), yrow_at, up_ne (by omega)]
      · by_cases hi : i = q
        · rw [hi, g2 q h0 (by omega), yrow_at, up_at]
        · exact g3 i (by omega) i1
theorem m_draw {S : XS} {M N : YM} {s : Int} {O : Int → Int → Int} (hs : 0 ≤ s ∧ s ≤ 100100) (R : Rel M) (hA : mAt M O) : rm S 1 181 [yr 75, yi s] M N (fun r M' N' => none = r ∧ ((∀ q, in6 q → M' 89 q = dwV O s q) ∧ (∀ c, c ≠ 89 → M' c = M c) ∧ Rel M' ∧ eqn M M') ∧ N = N') := by
  refine ⟨xe_181, m_181, Nat.le_of_ble_eq_true rfl, ?_⟩
  refine r_run 1 (pc' := 1) (ls' := [some (yr 75), some (yi s), none, none, none]) (st' := [yi s]) (M' := M) (N' := N) rfl ?_
  refine r_i2l f_181_1 (by omega) ?_
  refine r_run 5 (pc' := 8) (ls' := [some (yr 75), some (yi s), some (yj (s + 1)), none, some (yi 0)]) (st' := []) (M' := M) (N' := N) rfl ?_
  refine m_draw_l (O := O) (j := 6) (by omega) hs (Int.le_refl 0) rfl rfl hA fun M' g1 _ g3 => ?_
  have e : eqn M M' := eqn.ofm fun c hc => g1 c (by omega)
  exact ⟨rfl, ⟨fun q hq => g3 q hq.1 (by omega), g1, R.congr e, e⟩, rfl⟩
theorem c_meets {S : XS} {M N : YM} {s : Int} {O : Int → Int → Int} (hO : oIn O) (R : Rel M) (h39 : ∀ q, in6 q → M 39 q = dwV O s q) : rm S 4 110 [yr 0] M N (fun r M' N' => ∃ v : Int, some (yi v) = r ∧ (v = mtW M O s ∧ (∀ c, c ≠ 40 → M' c = M c) ∧ Rel M' ∧ eqn M M') ∧ N = N') := by
  refine ⟨xe_110, m_110, Nat.le_of_ble_eq_true rfl, ?_⟩
  have b4 := R.t.2.2.1
  have l10 := law_in R
  have e59 := R.t.2.1
  refine r_run 5 (pc' := 11) (ls' := [some (yr 0)]) (st' := [yi (M 1 4), yr 26]) (M' := M) (N' := N) rfl ?_
  refine r_aald (r := 49 + 3 * M 1 4) (kd := 105) (n := 6) f_110_11 (by decide) (by decide) (by decide) (by decide) (by omega) (rf_text (by omega)) ?_
  refine r_run 5 (pc' := 21) (ls' := [some (yr 0)]) (st' := [yr 40, yr 39, yi 2, yr (49 + 3 * M 1 4)]) (M' := M) (N' := N) rfl ?_
  refine r_virtual (mj := 46) (b := 49 + 3 * M 1 4) (as := [yi 2, yr 39, yr 40]) (rest := []) f_110_21 (by decide) rfl m_46 (by decide) (by omega) (by rw [(yk_text (by omega))]; rfl) rfl rfl (Nat.le_of_ble_eq_true rfl) (by omega) (c_tellR1 (t := M 1 4) (p := 2) R.t (by omega) (by omega) (fun q hq => by have := dwV_in (s := s) hO hq; rw [h39 q hq]; omega)) ?_
  rintro _ M3 _ ⟨v, rfl, ⟨hv, f3⟩, rfl⟩
  have e3 : eqn M M3 := eqn.of fun c hc => f3 c (by omega)
  rw [b4, txT_congr R.t (t := M 75 10) l10 (by omega) h39] at hv
  have hvi := txT_in R.t (t := M 75 10) l10 (p := 2) (by omega) (nm := dwV O s) (fun q hq => by have := dwV_in (s := s) hO hq; omega)
  rw [← hv] at hvi
  refine r_if_eq (pc := 24) f_110_24 (by omega) (fun h24 => ?_) (fun h24 => ?_)
  · refine r_run 1 (pc' := 32) (ls' := [some (yr 0)]) (st' := [yi 0]) (M' := M3) (N' := N) rfl ?_
    refine r_zret m_110 rfl f_110_32 (by omega) ?_
    exact ⟨_, rfl, ⟨by unfold mtW; rw [← hv, if_pos (by omega)], f3, R.congr e3, e3⟩, rfl⟩
  · refine r_run 2 (pc' := 32) (ls' := [some (yr 0)]) (st' := [yi 1]) (M' := M3) (N' := N) rfl ?_
    refine r_zret m_110 rfl f_110_32 (by omega) ?_
    exact ⟨_, rfl, ⟨by unfold mtW; rw [← hv, if_neg (by omega)], f3, R.congr e3, e3⟩, rfl⟩
theorem m_meets {S : XS} {M N : YM} {s : Int} {O : Int → Int → Int} (hO : oIn O) (R : Rel M) (h89 : ∀ q, in6 q → M 89 q = dwV O s q) : rm S 3 134 [yr 75, yi 2] M N (fun r M' N' => ∃ v : Int, some (yi v) = r ∧ ((v = 0 ∧ mtW M O s = 0 ∨ v ≠ 0 ∧ mtW M O s = 1) ∧ (-2147483648 ≤ v ∧ v < 2147483648) ∧ (∀ c, c ≠ 88 → M' c = M c) ∧ Rel M' ∧ eqn M M') ∧ N = N') := by
  have l10 := law_in R
  refine rm_post (m_says1 (p := 2) R.t.2.2.2.2 R.t.2.1.2 l10 (by omega) (fun q hq => by have := dwV_in (s := s) hO hq; rw [h89 q hq]; omega)) ?_
  rintro _ M' _ ⟨v, rfl, ⟨hv, f⟩, rfl⟩
  have e : eqn M M' := eqn.ofm fun c hc => f c (by omega)
  rw [txT_congr R.t (t := M 75 10) l10 (by omega) h89] at hv
  have hvi := txT_in R.t (t := M 75 10) l10 (p := 2) (by omega) (nm := dwV O s) (fun q hq => by have := dwV_in (s := s) hO hq; omega)
  rw [← hv] at hvi
  refine ⟨v, rfl, ⟨?_, hvi, f, R.congr e, e⟩, rfl⟩
  unfold mtW
  rw [← hv]
  by_cases g : v = 0
  · exact Or.inl ⟨g, if_pos g⟩
  · exact Or.inr ⟨g, if_neg g⟩
noncomputable def fDrawn (s w : Int) (M : YM) : Int := if (s < 0 ∨ 99999 < s) ∨ (w < 0 ∨ 6 < w) then -2 else if nV M = 0 then -1 else if w < 6 then dwV (nT M) s w else mtW M (nT M) s
theorem fDrawn_eq {s w : Int} {M M' : YM} (e : eqn M M') : fDrawn s w M' = fDrawn s w M := by
  unfold fDrawn
  rw [e.eqs.eV, e.eqs.eT, e.eMt]
theorem c_drawn {S : XS} {M N : YM} {s w : Int} (hqs : -2147483648 ≤ s ∧ s < 2147483648) (hqw : -2147483648 ≤ w ∧ w < 2147483648) (R : Rel M) : rm S 6 81 [yr 0, yi s, yi w] M N (fun r M' _ => ∃ v : Int, some (yi v) = r ∧ v = fDrawn s w M ∧ eqn M M') := by
  refine ⟨xe_81, m_81, Nat.le_of_ble_eq_true rfl, ?_⟩
  refine r_run 3 (pc' := 5) (ls' := [some (yr 0), some (yi s), some (yi w)]) (st' := [yi 99999, yi 0, yi s]) (M' := M) (N' := N) rfl ?_
  refine r_static (mj := 90) (as := [yi s, yi 0, yi 99999]) (rest := []) f_81_5 (by decide) rfl m_90 rfl rfl rfl (Nat.le_of_ble_eq_true rfl) (by omega) (c_within (by omega) (by omega) (by omega)) ?_
  rintro _ _ _ ⟨v5, rfl, hv5, rfl, rfl⟩
  refine r_if_eq (pc := 8) f_81_8 (by omega) (fun h8 => ?_) (fun h8 => ?_)
  · refine r_run 1 (pc' := 23) (ls' := [some (yr 0), some (yi s), some (yi w)]) (st' := [yi (-2)]) (M' := M) (N' := N) rfl ?_
    refine r_iret m_81 rfl f_81_23 ?_
    exact ⟨_, rfl, by unfold fDrawn; rw [if_pos (by omega)], eqn.refl⟩
  · refine r_run 3 (pc' := 15) (ls' := [some (yr 0), some (yi s), some (yi w)]) (st' := [yi 6, yi 0, yi w]) (M' := M) (N' := N) rfl ?_
    refine r_static (mj := 90) (as := [yi w, yi 0, yi 6]) (rest := []) f_81_15 (by decide) rfl m_90 rfl rfl rfl (Nat.le_of_ble_eq_true rfl) (by omega) (c_within (by omega) (by omega) (by omega)) ?_
    rintro _ _ _ ⟨v15, rfl, hv15, rfl, rfl⟩
    refine r_if_ne (pc := 18) f_81_18 (by omega) (fun h18 => ?_) (fun h18 => ?_)
    · refine r_run 1 (pc' := 25) (ls' := [some (yr 0), some (yi s), some (yi w)]) (st' := [yr 0]) (M' := M) (N' := N) rfl ?_
      refine r_virtual (mj := 97) (b := 0) (as := []) (rest := []) f_81_25 (by decide) rfl m_97 (by decide) (by decide) (by decide) rfl rfl (Nat.le_of_ble_eq_true rfl) (by omega) (c_can1 R) ?_
      rintro _ M2 _ ⟨v, rfl, ⟨hv, hv01, hat, hBE, hfr, R2, hq, hT⟩, rfl⟩
      refine r_if_ne (pc := 28) f_81_28 (by omega) (fun h28 => ?_) (fun h28 => ?_)
      · refine r_run 2 (pc' := 35) (ls' := [some (yr 0), some (yi s), some (yi w)]) (st' := [yi s, yr 0]) (M' := M2) (N' := N) rfl ?_
        refine r_virtual (mj := 109) (b := 0) (as := [yi s]) (rest := []) f_81_35 (by decide) rfl m_109 (by decide) (by decide) (by decide) rfl rfl (Nat.le_of_ble_eq_true rfl) (by omega) (c_draw (by omega) R2 (hat (by omega))) ?_
        rintro _ M3 _ ⟨rfl, ⟨h3, f3, R3, e3⟩, rfl⟩
        have q3 := hq.trans e3
        refine r_run 2 (pc' := 41) (ls' := [some (yr 0), some (yi s), some (yi w)]) (st' := [yi 6, yi w]) (M' := M3) (N' := N) rfl ?_
        refine r_icmp_ge (pc := 41) f_81_41 (by omega) (by omega) (fun h41 => ?_) (fun h41 => ?_)
        · refine r_run 1 (pc' := 54) (ls' := [some (yr 0), some (yi s), some (yi w)]) (st' := [yr 0]) (M' := M3) (N' := N) rfl ?_
          refine r_virtual (mj := 110) (b := 0) (as := []) (rest := []) f_81_54 (by decide) rfl m_110 (by decide) (by decide) (by decide) rfl rfl (Nat.le_of_ble_eq_true rfl) (by omega) (c_meets (s := s) (hat (by omega)).o R3 h3) ?_
          rintro _ M4 _ ⟨v4, rfl, ⟨hv4, f4, R4, e4⟩, rfl⟩
          rw [q3.eMt] at hv4
          have m01 := @mtW_in M (nT M) s
          refine r_if_eq (pc := 57) f_81_57 (by omega) (fun h57 => ?_) (fun h57 => ?_)
          · refine r_run 1 (pc' := 65) (ls' := [some (yr 0), some (yi s), some (yi w)]) (st' := [yi 0]) (M' := M4) (N' := N) rfl ?_
            refine r_iret m_81 rfl f_81_65 ?_
            exact ⟨_, rfl, by unfold fDrawn; rw [if_neg (by omega), if_neg (by omega), if_neg (by omega)]; omega, q3.trans e4⟩
          · refine r_run 2 (pc' := 65) (ls' := [some (yr 0), some (yi s), some (yi w)]) (st' := [yi 1]) (M' := M4) (N' := N) rfl ?_
            refine r_iret m_81 rfl f_81_65 ?_
            exact ⟨_, rfl, by unfold fDrawn; rw [if_neg (by omega), if_neg (by omega), if_neg (by omega)]; omega, q3.trans e4⟩
        · refine r_run 3 (pc' := 49) (ls' := [some (yr 0), some (yi s), some (yi w)]) (st' := [yi w, yr 39]) (M' := M3) (N' := N) rfl ?_
          refine r_iald (n := 6) f_81_49 (by decide) (by decide) (by decide) (by omega) ?_
          refine r_run 1 (pc' := 65) (ls' := [some (yr 0), some (yi s), some (yi w)]) (st' := [yi (M3 39 w)]) (M' := M3) (N' := N) rfl ?_
          refine r_iret m_81 rfl f_81_65 ?_
          exact ⟨_, rfl, by unfold fDrawn; rw [if_neg (by omega), if_neg (by omega), if_pos (by omega)]; exact h3 w ⟨by omega, by omega⟩, q3⟩
      · refine r_run 1 (pc' := 32) (ls' := [some (yr 0), some (yi s), some (yi w)]) (st' := [yi (-1)]) (M' := M2) (N' := N) rfl ?_
        refine r_iret m_81 rfl f_81_32 ?_
        exact ⟨_, rfl, by unfold fDrawn; rw [if_neg (by omega), if_pos (by omega)], hq⟩
    · refine r_run 1 (pc' := 23) (ls' := [some (yr 0), some (yi s), some (yi w)]) (st' := [yi (-2)]) (M' := M) (N' := N) rfl ?_
      refine r_iret m_81 rfl f_81_23 ?_
      exact ⟨_, rfl, by unfold fDrawn; rw [if_pos (by omega)], eqn.refl⟩
theorem m_drawn {S : XS} {M N : YM} {s w : Int} (hqs : -2147483648 ≤ s ∧ s < 2147483648) (hqw : -2147483648 ≤ w ∧ w < 2147483648) (R : Rel M) : rm S 4 182 [yr 75, yi s, yi w] M N (fun r M' _ => ∃ v : Int, some (yi v) = r ∧ v = fDrawn s w M ∧ eqn M M') := by
  refine ⟨xe_182, m_182, Nat.le_of_ble_eq_true rfl, ?_⟩
  refine r_run 3 (pc' := 4) (ls' := [some (yr 75), some (yi s), some (yi w)]) (st' := [yi 99999, yi 0, yi s]) (M' := M) (N' := N) rfl ?_
  refine r_static (mj := 112) (as := [yi s, yi 0, yi 99999]) (rest := []) f_182_4 (by decide) rfl m_112 rfl rfl rfl (Nat.le_of_ble_eq_true rfl) (by omega) (m_in (by omega) (by omega) (by omega)) ?_
  rintro _ _ _ ⟨v4, rfl, hv4, rfl, rfl⟩
  refine r_if_eq (pc := 7) f_182_7 (by omega) (fun h7 => ?_) (fun h7 => ?_)
  · refine r_run 1 (pc' := 22) (ls' := [some (yr 75), some (yi s), some (yi w)]) (st' := [yi (-2)]) (M' := M) (N' := N) rfl ?_
    refine r_iret m_182 rfl f_182_22 ?_
    exact ⟨_, rfl, by unfold fDrawn; rw [if_pos (by omega)], eqn.refl⟩
  · refine r_run 3 (pc' := 14) (ls' := [some (yr 75), some (yi s), some (yi w)]) (st' := [yi 6, yi 0, yi w]) (M' := M) (N' := N) rfl ?_
    refine r_static (mj := 112) (as := [yi w, yi 0, yi 6]) (rest := []) f_182_14 (by decide) rfl m_112 rfl rfl rfl (Nat.le_of_ble_eq_true rfl) (by omega) (m_in (by omega) (by omega) (by omega)) ?_
    rintro _ _ _ ⟨v14, rfl, hv14, rfl, rfl⟩
    refine r_if_ne (pc := 17) f_182_17 (by omega) (fun h17 => ?_) (fun h17 => ?_)
    · refine r_run 1 (pc' := 24) (ls' := [some (yr 75), some (yi s), some (yi w)]) (st' := [yr 75]) (M' := M) (N' := N) rfl ?_
      refine r_virtual (mj := 148) (b := 75) (as := []) (rest := []) f_182_24 (by decide) rfl m_148 (by decide) (by decide) (by decide) rfl rfl (Nat.le_of_ble_eq_true rfl) (by omega) (m_can1 R) ?_
      rintro _ M2 _ ⟨v, rfl, ⟨hv, hv01, hat, hBE, hfr, R2, hq⟩, rfl⟩
      refine r_if_ne (pc := 27) f_182_27 (by omega) (fun h27 => ?_) (fun h27 => ?_)
      · refine r_run 2 (pc' := 34) (ls' := [some (yr 75), some (yi s), some (yi w)]) (st' := [yi s, yr 75]) (M' := M2) (N' := N) rfl ?_
        refine r_virtual (mj := 181) (b := 75) (as := [yi s]) (rest := []) f_182_34 (by decide) rfl m_181 (by decide) (by decide) (by decide) rfl rfl (Nat.le_of_ble_eq_true rfl) (by omega) (m_draw (by omega) R2 (hat (by omega))) ?_
        rintro _ M3 _ ⟨rfl, ⟨h3, f3, R3, e3⟩, rfl⟩
        have q3 := hq.trans e3
        refine r_run 2 (pc' := 40) (ls' := [some (yr 75), some (yi s), some (yi w)]) (st' := [yi 6, yi w]) (M' := M3) (N' := N) rfl ?_
        refine r_icmp_ge (pc := 40) f_182_40 (by omega) (by omega) (fun h40 => ?_) (fun h40 => ?_)
        · refine r_run 2 (pc' := 54) (ls' := [some (yr 75), some (yi s), some (yi w)]) (st' := [yi 2, yr 75]) (M' := M3) (N' := N) rfl ?_
          refine r_virtual (mj := 134) (b := 75) (as := [yi 2]) (rest := []) f_182_54 (by decide) rfl m_134 (by decide) (by decide) (by decide) rfl rfl (Nat.le_of_ble_eq_true rfl) (by omega) (m_meets (s := s) (hat (by omega)).o R3 h3) ?_
          rintro _ M4 _ ⟨v4, rfl, ⟨hv4, hvi, f4, R4, e4⟩, rfl⟩
          rw [q3.eMt] at hv4
          refine r_if_ne (pc := 57) f_182_57 (by omega) (fun h57 => ?_) (fun h57 => ?_)
          · refine r_run 1 (pc' := 65) (ls' := [some (yr 75), some (yi s), some (yi w)]) (st' := [yi 1]) (M' := M4) (N' := N) rfl ?_
            refine r_iret m_182 rfl f_182_65 ?_
            exact ⟨_, rfl, by unfold fDrawn; rw [if_neg (by omega), if_neg (by omega), if_neg (by omega)]; omega, q3.trans e4⟩
          · refine r_run 2 (pc' := 65) (ls' := [some (yr 75), some (yi s), some (yi w)]) (st' := [yi 0]) (M' := M4) (N' := N) rfl ?_
            refine r_iret m_182 rfl f_182_65 ?_
            exact ⟨_, rfl, by unfold fDrawn; rw [if_neg (by omega), if_neg (by omega), if_neg (by omega)]; omega, q3.trans e4⟩
        · refine r_run 3 (pc' := 48) (ls' := [some (yr 75), some (yi s), some (yi w)]) (st' := [yi w, yr 89]) (M' := M3) (N' := N) rfl ?_
          refine r_iald (n := 6) f_182_48 (by decide) (by decide) (by decide) (by omega) ?_
          refine r_run 1 (pc' := 65) (ls' := [some (yr 75), some (yi s), some (yi w)]) (st' := [yi (M3 89 w)]) (M' := M3) (N' := N) rfl ?_
          refine r_iret m_182 rfl f_182_65 ?_
          exact ⟨_, rfl, by unfold fDrawn; rw [if_neg (by omega), if_neg (by omega), if_pos (by omega)]; exact h3 w ⟨by omega, by omega⟩, q3⟩
      · refine r_run 1 (pc' := 31) (ls' := [some (yr 75), some (yi s), some (yi w)]) (st' := [yi (-1)]) (M' := M2) (N' := N) rfl ?_
        refine r_iret m_182 rfl f_182_31 ?_
        exact ⟨_, rfl, by unfold fDrawn; rw [if_neg (by omega), if_pos (by omega)], hq⟩
    · refine r_run 1 (pc' := 22) (ls' := [some (yr 75), some (yi s), some (yi w)]) (st' := [yi (-2)]) (M' := M) (N' := N) rfl ?_
      refine r_iret m_182 rfl f_182_22 ?_
      exact ⟨_, rfl, by unfold fDrawn; rw [if_pos (by omega)], eqn.refl⟩
theorem p_drawn {S : XS} {M N : YM} {s w : Int} (hqs : -2147483648 ≤ s ∧ s < 2147483648) (hqw : -2147483648 ≤ w ∧ w < 2147483648) (R : Rel M) : pri S 81 182 [yi s, yi w] M N := pri_q (fDrawn s w) (rm_deep (by decide) (c_drawn hqs hqw R)) (fun M N R => rm_deep (by decide) (m_drawn hqs hqw R)) (fun M' _ e => fDrawn_eq e) R
def odF (g : Int → Int) : Nat → Int → Int → Int
  | 0, _, a => a
  | j + 1, i, a => odF g j (i + 1) (a + g i)
theorem odF_in {g : Int → Int} (h : ∀ i, g i = 0 ∨ g i = 1) {j : Nat} : ∀ {i a : Int}, a ≤ odF g j i a ∧ odF g j i a ≤ a + j := by
  induction j with
  | zero => intro i a; exact ⟨Int.le_refl _, by show a ≤ a + ((0 : Nat) : Int); omega⟩
  | succ j ih =>
    intro i a
    have := @ih (i + 1) (a + g i)
    have := h i
    show a ≤ odF g j (i + 1) (a + g i) ∧ odF g j (i + 1) (a + g i) ≤ _
    omega
def odG (M : YM) (O : Int → Int → Int) (s i : Int) : Int := mtW M O (s + i)
noncomputable def fOdds (s n t : Int) (M : YM) : Int := if (s < 0 ∨ 99999 < s) ∨ (n < 1 ∨ 40 < n) ∨ (t < 0 ∨ 1 < t) ∨ nV M = 0 then -4611686018427387904 else lwT (odF (odG M (nT M) s) n.toNat 0 0) n t
theorem fOdds_eq {s n t : Int} {M M' : YM} (e : eqn M M') : fOdds s n t M' = fOdds s n t M := by
  have h : odG M' = odG M := by
    funext O s i
    unfold odG
    rw [e.eMt]
  unfold fOdds
  rw [e.eqs.eV, e.eqs.eT, h]
theorem c_odds_l {S : XS} {d : Nat} {s n t : Int} {O : Int → Int → Int} {M0 N : YM} {Q : Option YV → YM → YM → Prop} (hd : 5 ≤ d) (hs : 0 ≤ s ∧ s ≤ 99999) (hn : 1 ≤ n ∧ n ≤ 40) {j : Nat} : ∀ {i a : Int} {M : YM}, 0 ≤ i → i + j = n → (0 ≤ a ∧ a ≤ i) → Rel M → eqn M0 M → cAt M O → (∀ M', Rel M' → eqn M0 M' → ry S d 82 84 [some (yr 0), some (yi s), some (yi n), some (yi t), some (yi (odF (odG M0 O s) j i a)), some (yi n)] [] M' N Q) → ry S d 82 47 [some (yr 0), some (yi s), some (yi n), some (yi t), some (yi a), some (yi i)] [] M N Q := by
  induction j with
  | zero =>
    intro i a M h0 h1 ha R e hA kk
    refine r_run 2 (pc' := 50) (ls' := [some (yr 0), some (yi s), some (yi n), some (yi t), some (yi a), some (yi i)]) (st' := [yi n, yi i]) (M' := M) (N' := N) rfl ?_
    refine r_icmp_ge (pc := 50) f_82_50 (by omega) (by omega) (fun h50 => ?_) (fun h50 => ?_)
    · rw [show i = n by omega]
      rw [show i = n by omega] at kk
      exact kk M R e
    · exfalso; omega
  | succ j ih =>
    intro i a M h0 h1 ha R e hA kk
    refine r_run 2 (pc' := 50) (ls' := [some (yr 0), some (yi s), some (yi n), some (yi t), some (yi a), some (yi i)]) (st' := [yi n, yi i]) (M' := M) (N' := N) rfl ?_
    refine r_icmp_ge (pc := 50) f_82_50 (by omega) (by omega) (fun h50 => ?_) (fun h50 => ?_)
    · exfalso; omega
    · refine r_run 4 (pc' := 58) (ls' := [some (yr 0), some (yi s), some (yi n), some (yi t), some (yi a), some (yi i)]) (st' := [yi (s + i), yr 0]) (M' := M) (N' := N) rfl ?_
      refine r_virtual (mj := 109) (b := 0) (as := [yi (s + i)]) (rest := []) f_82_58 (by decide) rfl m_109 (by decide) (by decide) (by decide) rfl rfl (Nat.le_of_ble_eq_true rfl) (by omega) (c_draw (s := s + i) (by omega) R hA) ?_
      rintro _ M3 _ ⟨rfl, ⟨h3, f3, R3, e3⟩, rfl⟩
      have q3 := e.trans e3
      refine r_run 2 (pc' := 64) (ls' := [some (yr 0), some (yi s), some (yi n), some (yi t), some (yi a), some (yi i)]) (st' := [yr 0, yi a]) (M' := M3) (N' := N) rfl ?_
      refine r_virtual (mj := 110) (b := 0) (as := []) (rest := [yi a]) f_82_64 (by decide) rfl m_110 (by decide) (by decide) (by decide) rfl rfl (Nat.le_of_ble_eq_true rfl) (by omega) (c_meets (s := s + i) hA.o R3 h3) ?_
      rintro _ M4 _ ⟨v4, rfl, ⟨hv4, f4, R4, e4⟩, rfl⟩
      rw [q3.eMt] at hv4
      have m01 := @mtW_in M0 O (s + i)
      refine r_if_eq (pc := 67) f_82_67 (by omega) (fun h67 => ?_) (fun h67 => ?_)
      · refine r_run 5 (pc' := 47) (ls' := [some (yr 0), some (yi s), some (yi n), some (yi t), some (yi (a + 0)), some (yi (i + 1))]) (st' := []) (M' := M4) (N' := N) rfl ?_
        have g0 : odG M0 O s i = 0 := by show mtW M0 O (s + i) = _; omega
        refine ih (by omega) (by omega) (by omega) R4 (q3.trans e4) (hA.fr fun c hc => by rw [f4 c (by omega), f3 c (by omega)]) ?_
        rw [show odF (odG M0 O s) (j + 1) i a = odF (odG M0 O s) j (i + 1) (a + 0) from congrArg (fun z => odF (odG M0 O s) j (i + 1) (a + z)) g0] at kk
        exact kk
      · refine r_run 6 (pc' := 47) (ls' := [some (yr 0), some (yi s), some (yi n), some (yi t), some (yi (a + 1)), some (yi (i + 1))]) (st' := []) (M' := M4) (N' := N) rfl ?_
        have g0 : odG M0 O s i = 1 := by show mtW M0 O (s + i) = _; omega
        refine ih (by omega) (by omega) (by omega) R4 (q3.trans e4) (hA.fr fun c hc => by rw [f4 c (by omega), f3 c (by omega)]) ?_
        rw [show odF (odG M0 O s) (j + 1) i a = odF (odG M0 O s) j (i + 1) (a + 1) from congrArg (fun z => odF (odG M0 O s) j (i + 1) (a + z)) g0] at kk
        exact kk
theorem c_odds {S : XS} {M N : YM} {s n t : Int} (hqs : -2147483648 ≤ s ∧ s < 2147483648) (hqn : -2147483648 ≤ n ∧ n < 2147483648) (hqt : -2147483648 ≤ t ∧ t < 2147483648) (R : Rel M) : rm S 6 82 [yr 0, yi s, yi n, yi t] M N (fun r M' _ => ∃ v : Int, some (yj v) = r ∧ v = fOdds s n t M ∧ eqn M M') := by
  refine ⟨xe_82, m_82, Nat.le_of_ble_eq_true rfl, ?_⟩
  refine r_run 3 (pc' := 5) (ls' := [some (yr 0), some (yi s), some (yi n), some (yi t), none, none]) (st' := [yi 99999, yi 0, yi s]) (M' := M) (N' := N) rfl ?_
  refine r_static (mj := 90) (as := [yi s, yi 0, yi 99999]) (rest := []) f_82_5 (by decide) rfl m_90 rfl rfl rfl (Nat.le_of_ble_eq_true rfl) (by omega) (c_within (by omega) (by omega) (by omega)) ?_
  rintro _ _ _ ⟨v5, rfl, hv5, rfl, rfl⟩
  refine r_if_eq (pc := 8) f_82_8 (by omega) (fun h8 => ?_) (fun h8 => ?_)
  · refine r_run 1 (pc' := 40) (ls' := [some (yr 0), some (yi s), some (yi n), some (yi t), none, none]) (st' := [yj (-4611686018427387904)]) (M' := M) (N' := N) rfl ?_
    refine r_lret m_82 rfl f_82_40 ?_
    exact ⟨_, rfl, by unfold fOdds; rw [if_pos (by omega)], eqn.refl⟩
  · refine r_run 3 (pc' := 15) (ls' := [some (yr 0), some (yi s), some (yi n), some (yi t), none, none]) (st' := [yi 40, yi 1, yi n]) (M' := M) (N' := N) rfl ?_
    refine r_static (mj := 90) (as := [yi n, yi 1, yi 40]) (rest := []) f_82_15 (by decide) rfl m_90 rfl rfl rfl (Nat.le_of_ble_eq_true rfl) (by omega) (c_within (by omega) (by omega) (by omega)) ?_
    rintro _ _ _ ⟨v15, rfl, hv15, rfl, rfl⟩
    refine r_if_eq (pc := 18) f_82_18 (by omega) (fun h18 => ?_) (fun h18 => ?_)
    · refine r_run 1 (pc' := 40) (ls' := [some (yr 0), some (yi s), some (yi n), some (yi t), none, none]) (st' := [yj (-4611686018427387904)]) (M' := M) (N' := N) rfl ?_
      refine r_lret m_82 rfl f_82_40 ?_
      exact ⟨_, rfl, by unfold fOdds; rw [if_pos (by omega)], eqn.refl⟩
    · refine r_run 3 (pc' := 24) (ls' := [some (yr 0), some (yi s), some (yi n), some (yi t), none, none]) (st' := [yi 1, yi 0, yi t]) (M' := M) (N' := N) rfl ?_
      refine r_static (mj := 90) (as := [yi t, yi 0, yi 1]) (rest := []) f_82_24 (by decide) rfl m_90 rfl rfl rfl (Nat.le_of_ble_eq_true rfl) (by omega) (c_within (by omega) (by omega) (by omega)) ?_
      rintro _ _ _ ⟨v24, rfl, hv24, rfl, rfl⟩
      refine r_if_eq (pc := 27) f_82_27 (by omega) (fun h27 => ?_) (fun h27 => ?_)
      · refine r_run 1 (pc' := 40) (ls' := [some (yr 0), some (yi s), some (yi n), some (yi t), none, none]) (st' := [yj (-4611686018427387904)]) (M' := M) (N' := N) rfl ?_
        refine r_lret m_82 rfl f_82_40 ?_
        exact ⟨_, rfl, by unfold fOdds; rw [if_pos (by omega)], eqn.refl⟩
      · refine r_run 1 (pc' := 31) (ls' := [some (yr 0), some (yi s), some (yi n), some (yi t), none, none]) (st' := [yr 0]) (M' := M) (N' := N) rfl ?_
        refine r_virtual (mj := 97) (b := 0) (as := []) (rest := []) f_82_31 (by decide) rfl m_97 (by decide) (by decide) (by decide) rfl rfl (Nat.le_of_ble_eq_true rfl) (by omega) (c_can1 R) ?_
        rintro _ M2 _ ⟨v, rfl, ⟨hv, hv01, hat, hBE, hfr, R2, hq, hT⟩, rfl⟩
        refine r_if_ne (pc := 34) f_82_34 (by omega) (fun h34 => ?_) (fun h34 => ?_)
        · refine r_run 4 (pc' := 47) (ls' := [some (yr 0), some (yi s), some (yi n), some (yi t), some (yi 0), some (yi 0)]) (st' := []) (M' := M2) (N' := N) rfl ?_
          refine c_odds_l (M0 := M) (O := nT M) (j := n.toNat) (by omega) (by omega) (by omega) (Int.le_refl 0) (by omega) (by omega) R2 hq (hat (by omega)) fun M5 R5 q5 => ?_
          have oi := @odF_in (odG M (nT M) s) (fun i => mtW_in) n.toNat 0 0
          refine r_run 1 (pc' := 86) (ls' := [some (yr 0), some (yi s), some (yi n), some (yi t), some (yi (odF (odG M (nT M) s) n.toNat 0 0)), some (yi n)]) (st' := [yi (odF (odG M (nT M) s) n.toNat 0 0)]) (M' := M5) (N' := N) rfl ?_
          refine r_i2l f_82_86 (by omega) ?_
          refine r_run 1 (pc' := 88) (ls' := [some (yr 0), some (yi s), some (yi n), some (yi t), some (yi (odF (odG M (nT M) s) n.toNat 0 0)), some (yi n)]) (st' := [yi n, yj (odF (odG M (nT M) s) n.toNat 0 0)]) (M' := M5) (N' := N) rfl ?_
          refine r_i2l f_82_88 (by omega) ?_
          refine r_run 1 (pc' := 90) (ls' := [some (yr 0), some (yi s), some (yi n), some (yi t), some (yi (odF (odG M (nT M) s) n.toNat 0 0)), some (yi n)]) (st' := [yi t, yj n, yj (odF (odG M (nT M) s) n.toNat 0 0)]) (M' := M5) (N' := N) rfl ?_
          refine r_static (mj := 107) (as := [yj (odF (odG M (nT M) s) n.toNat 0 0), yj n, yi t]) (rest := []) f_82_90 (by decide) rfl m_107 rfl rfl rfl (Nat.le_of_ble_eq_true rfl) (by omega) (c_lowest (by omega) (by omega) (by omega)) ?_
          rintro _ _ _ ⟨vv, rfl, hvv, rfl, rfl⟩
          refine r_lret m_82 rfl f_82_93 ?_
          exact ⟨_, rfl, by unfold fOdds; rw [if_neg (by omega)]; exact hvv, q5⟩
        · refine r_run 1 (pc' := 40) (ls' := [some (yr 0), some (yi s), some (yi n), some (yi t), none, none]) (st' := [yj (-4611686018427387904)]) (M' := M2) (N' := N) rfl ?_
          refine r_lret m_82 rfl f_82_40 ?_
          exact ⟨_, rfl, by unfold fOdds; rw [if_pos (by omega)], hq⟩
theorem m_odds_l {S : XS} {d : Nat} {s n t : Int} {O : Int → Int → Int} {M0 N : YM} {Q : Option YV → YM → YM → Prop} (hd : 4 ≤ d) (hs : 0 ≤ s ∧ s ≤ 99999) (hn : 1 ≤ n ∧ n ≤ 40) {j : Nat} : ∀ {i a : Int} {M : YM}, 0 ≤ i → i + j = n → (0 ≤ a ∧ a ≤ i) → Rel M → eqn M0 M → mAt M O → (∀ M', Rel M' → eqn M0 M' → ry S d 183 84 [some (yr 75), some (yi s), some (yi n), some (yi t), some (yj (odF (odG M0 O s) j i a)), none, some (yi n)] [] M' N Q) → ry S d 183 46 [some (yr 75), some (yi s), some (yi n), some (yi t), some (yj a), none, some (yi i)] [] M N Q := by
  induction j with
  | zero =>
    intro i a M h0 h1 ha R e hA kk
    refine r_run 2 (pc' := 49) (ls' := [some (yr 75), some (yi s), some (yi n), some (yi t), some (yj a), none, some (yi i)]) (st' := [yi n, yi i]) (M' := M) (N' := N) rfl ?_
    refine r_icmp_ge (pc := 49) f_183_49 (by omega) (by omega) (fun h49 => ?_) (fun h49 => ?_)
    · rw [show i = n by omega]
      rw [show i = n by omega] at kk
      exact kk M R e
    · exfalso; omega
  | succ j ih =>
    intro i a M h0 h1 ha R e hA kk
    refine r_run 2 (pc' := 49) (ls' := [some (yr 75), some (yi s), some (yi n), some (yi t), some (yj a), none, some (yi i)]) (st' := [yi n, yi i]) (M' := M) (N' := N) rfl ?_
    refine r_icmp_ge (pc := 49) f_183_49 (by omega) (by omega) (fun h49 => ?_) (fun h49 => ?_)
    · exfalso; omega
    · refine r_run 4 (pc' := 57) (ls' := [some (yr 75), some (yi s), some (yi n), some (yi t), some (yj a), none, some (yi i)]) (st' := [yi (s + i), yr 75]) (M' := M) (N' := N) rfl ?_
      refine r_virtual (mj := 181) (b := 75) (as := [yi (s + i)]) (rest := []) f_183_57 (by decide) rfl m_181 (by decide) (by decide) (by decide) rfl rfl (Nat.le_of_ble_eq_true rfl) (by omega) (m_draw (s := s + i) (by omega) R hA) ?_
      rintro _ M3 _ ⟨rfl, ⟨h3, f3, R3, e3⟩, rfl⟩
      have q3 := e.trans e3
      refine r_run 3 (pc' := 64) (ls' := [some (yr 75), some (yi s), some (yi n), some (yi t), some (yj a), none, some (yi i)]) (st' := [yi 2, yr 75, yj a]) (M' := M3) (N' := N) rfl ?_
      refine r_virtual (mj := 134) (b := 75) (as := [yi 2]) (rest := [yj a]) f_183_64 (by decide) rfl m_134 (by decide) (by decide) (by decide) rfl rfl (Nat.le_of_ble_eq_true rfl) (by omega) (m_meets (s := s + i) hA.o R3 h3) ?_
      rintro _ M4 _ ⟨v4, rfl, ⟨hv4, hvi, f4, R4, e4⟩, rfl⟩
      rw [q3.eMt] at hv4
      refine r_if_ne (pc := 67) f_183_67 (by omega) (fun h67 => ?_) (fun h67 => ?_)
      · refine r_run 5 (pc' := 46) (ls' := [some (yr 75), some (yi s), some (yi n), some (yi t), some (yj (a + 1)), none, some (yi (i + 1))]) (st' := []) (M' := M4) (N' := N) rfl ?_
        have g0 : odG M0 O s i = 1 := by show mtW M0 O (s + i) = _; omega
        refine ih (by omega) (by omega) (by omega) R4 (q3.trans e4) (hA.fr (by rw [f4 92 (by decide), f3 92 (by decide)])) ?_
        rw [show odF (odG M0 O s) (j + 1) i a = odF (odG M0 O s) j (i + 1) (a + 1) from congrArg (fun z => odF (odG M0 O s) j (i + 1) (a + z)) g0] at kk
        exact kk
      · refine r_run 6 (pc' := 46) (ls' := [some (yr 75), some (yi s), some (yi n), some (yi t), some (yj (a + 0)), none, some (yi (i + 1))]) (st' := []) (M' := M4) (N' := N) rfl ?_
        have g0 : odG M0 O s i = 0 := by show mtW M0 O (s + i) = _; omega
        refine ih (by omega) (by omega) (by omega) R4 (q3.trans e4) (hA.fr (by rw [f4 92 (by decide), f3 92 (by decide)])) ?_
        rw [show odF (odG M0 O s) (j + 1) i a = odF (odG M0 O s) j (i + 1) (a + 0) from congrArg (fun z => odF (odG M0 O s) j (i + 1) (a + z)) g0] at kk
        exact kk
theorem m_odds {S : XS} {M N : YM} {s n t : Int} (hqs : -2147483648 ≤ s ∧ s < 2147483648) (hqn : -2147483648 ≤ n ∧ n < 2147483648) (hqt : -2147483648 ≤ t ∧ t < 2147483648) (R : Rel M) : rm S 4 183 [yr 75, yi s, yi n, yi t] M N (fun r M' _ => ∃ v : Int, some (yj v) = r ∧ v = fOdds s n t M ∧ eqn M M') := by
  refine ⟨xe_183, m_183, Nat.le_of_ble_eq_true rfl, ?_⟩
  refine r_run 3 (pc' := 4) (ls' := [some (yr 75), some (yi s), some (yi n), some (yi t), none, none, none]) (st' := [yi 99999, yi 0, yi s]) (M' := M) (N' := N) rfl ?_
  refine r_static (mj := 112) (as := [yi s, yi 0, yi 99999]) (rest := []) f_183_4 (by decide) rfl m_112 rfl rfl rfl (Nat.le_of_ble_eq_true rfl) (by omega) (m_in (by omega) (by omega) (by omega)) ?_
  rintro _ _ _ ⟨v4, rfl, hv4, rfl, rfl⟩
  refine r_if_eq (pc := 7) f_183_7 (by omega) (fun h7 => ?_) (fun h7 => ?_)
  · refine r_run 1 (pc' := 39) (ls' := [some (yr 75), some (yi s), some (yi n), some (yi t), none, none, none]) (st' := [yj (-4611686018427387904)]) (M' := M) (N' := N) rfl ?_
    refine r_lret m_183 rfl f_183_39 ?_
    exact ⟨_, rfl, by unfold fOdds; rw [if_pos (by omega)], eqn.refl⟩
  · refine r_run 3 (pc' := 14) (ls' := [some (yr 75), some (yi s), some (yi n), some (yi t), none, none, none]) (st' := [yi 40, yi 1, yi n]) (M' := M) (N' := N) rfl ?_
    refine r_static (mj := 112) (as := [yi n, yi 1, yi 40]) (rest := []) f_183_14 (by decide) rfl m_112 rfl rfl rfl (Nat.le_of_ble_eq_true rfl) (by omega) (m_in (by omega) (by omega) (by omega)) ?_
    rintro _ _ _ ⟨v14, rfl, hv14, rfl, rfl⟩
    refine r_if_eq (pc := 17) f_183_17 (by omega) (fun h17 => ?_) (fun h17 => ?_)
    · refine r_run 1 (pc' := 39) (ls' := [some (yr 75), some (yi s), some (yi n), some (yi t), none, none, none]) (st' := [yj (-4611686018427387904)]) (M' := M) (N' := N) rfl ?_
      refine r_lret m_183 rfl f_183_39 ?_
      exact ⟨_, rfl, by unfold fOdds; rw [if_pos (by omega)], eqn.refl⟩
    · refine r_run 3 (pc' := 23) (ls' := [some (yr 75), some (yi s), some (yi n), some (yi t), none, none, none]) (st' := [yi 1, yi 0, yi t]) (M' := M) (N' := N) rfl ?_
      refine r_static (mj := 112) (as := [yi t, yi 0, yi 1]) (rest := []) f_183_23 (by decide) rfl m_112 rfl rfl rfl (Nat.le_of_ble_eq_true rfl) (by omega) (m_in (by omega) (by omega) (by omega)) ?_
      rintro _ _ _ ⟨v23, rfl, hv23, rfl, rfl⟩
      refine r_if_eq (pc := 26) f_183_26 (by omega) (fun h26 => ?_) (fun h26 => ?_)
      · refine r_run 1 (pc' := 39) (ls' := [some (yr 75), some (yi s), some (yi n), some (yi t), none, none, none]) (st' := [yj (-4611686018427387904)]) (M' := M) (N' := N) rfl ?_
        refine r_lret m_183 rfl f_183_39 ?_
        exact ⟨_, rfl, by unfold fOdds; rw [if_pos (by omega)], eqn.refl⟩
      · refine r_run 1 (pc' := 30) (ls' := [some (yr 75), some (yi s), some (yi n), some (yi t), none, none, none]) (st' := [yr 75]) (M' := M) (N' := N) rfl ?_
        refine r_virtual (mj := 148) (b := 75) (as := []) (rest := []) f_183_30 (by decide) rfl m_148 (by decide) (by decide) (by decide) rfl rfl (Nat.le_of_ble_eq_true rfl) (by omega) (m_can1 R) ?_
        rintro _ M2 _ ⟨v, rfl, ⟨hv, hv01, hat, hBE, hfr, R2, hq⟩, rfl⟩
        refine r_if_ne (pc := 33) f_183_33 (by omega) (fun h33 => ?_) (fun h33 => ?_)
        · refine r_run 4 (pc' := 46) (ls' := [some (yr 75), some (yi s), some (yi n), some (yi t), some (yj 0), none, some (yi 0)]) (st' := []) (M' := M2) (N' := N) rfl ?_
          refine m_odds_l (M0 := M) (O := nT M) (j := n.toNat) (by omega) (by omega) (by omega) (Int.le_refl 0) (by omega) (by omega) R2 hq (hat (by omega)) fun M5 R5 q5 => ?_
          have oi := @odF_in (odG M (nT M) s) (fun i => mtW_in) n.toNat 0 0
          refine r_run 2 (pc' := 87) (ls' := [some (yr 75), some (yi s), some (yi n), some (yi t), some (yj (odF (odG M (nT M) s) n.toNat 0 0)), none, some (yi n)]) (st' := [yi n, yj (odF (odG M (nT M) s) n.toNat 0 0)]) (M' := M5) (N' := N) rfl ?_
          refine r_i2l f_183_87 (by omega) ?_
          refine r_run 1 (pc' := 89) (ls' := [some (yr 75), some (yi s), some (yi n), some (yi t), some (yj (odF (odG M (nT M) s) n.toNat 0 0)), none, some (yi n)]) (st' := [yi t, yj n, yj (odF (odG M (nT M) s) n.toNat 0 0)]) (M' := M5) (N' := N) rfl ?_
          refine r_static (mj := 170) (as := [yj (odF (odG M (nT M) s) n.toNat 0 0), yj n, yi t]) (rest := []) f_183_89 (by decide) rfl m_170 rfl rfl rfl (Nat.le_of_ble_eq_true rfl) (by omega) (m_lowest (by omega) (by omega) (by omega)) ?_
          rintro _ _ _ ⟨vv, rfl, hvv, rfl, rfl⟩
          refine r_lret m_183 rfl f_183_92 ?_
          exact ⟨_, rfl, by unfold fOdds; rw [if_neg (by omega)]; exact hvv, q5⟩
        · refine r_run 1 (pc' := 39) (ls' := [some (yr 75), some (yi s), some (yi n), some (yi t), none, none, none]) (st' := [yj (-4611686018427387904)]) (M' := M2) (N' := N) rfl ?_
          refine r_lret m_183 rfl f_183_39 ?_
          exact ⟨_, rfl, by unfold fOdds; rw [if_pos (by omega)], hq⟩
theorem p_odds {S : XS} {M N : YM} {s n t : Int} (hqs : -2147483648 ≤ s ∧ s < 2147483648) (hqn : -2147483648 ≤ n ∧ n < 2147483648) (hqt : -2147483648 ≤ t ∧ t < 2147483648) (R : Rel M) : prl S 82 183 [yi s, yi n, yi t] M N := prl_q (fOdds s n t) (rm_deep (by decide) (c_odds hqs hqn hqt R)) (fun M N R => rm_deep (by decide) (m_odds hqs hqn hqt R)) (fun M' _ e => fOdds_eq e) R
