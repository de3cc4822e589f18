/-! what an inch costs; what a saying is worth; a quantity told exactly -/
def cost (M : YM) (O : Int → Int → Int) : Int := imax 0 (imin 99 (txT M (M 75 10) 1 (fun q => -O q 6)))
theorem cost_in (M : YM) (O : Int → Int → Int) : 0 ≤ cost M O ∧ cost M O ≤ 99 := by
  unfold cost imax imin
  (repeat' split) <;> omega
theorem eqn.eC {M M' : YM} (e : eqn M M') : cost M' = cost M := by
  funext O
  unfold cost
  rw [e.e10, e.eqx.eT]
theorem corner0 {O : Int → Int → Int} {q : Int} (h : in6 q) : corner O 0 q = -O q 6 := by
  unfold corner
  rw [if_pos (bit_zero ⟨h.1, by omega⟩)]
theorem law_in {M : YM} (R : Rel M) : 0 ≤ M 75 10 ∧ M 75 10 < M 75 9 := R.t.2.2.2.1
def wid (M : YM) (t : Int) (O : Int → Int → Int) : Int := rHi M t O - rLo M t O
theorem eqx.eW {M M' : YM} (h : eqx M M') : wid M' = wid M := by
  funext t O
  unfold wid
  rw [h.eL.1, h.eL.2]
theorem wid_in {M : YM} (h : RT M M) {t : Int} (ht : 0 ≤ t ∧ t < M 75 9) {O : Int → Int → Int} (hO : oIn O) : 0 ≤ wid M t O ∧ wid M t O < 4294967296 := by
  have := rLo_in h ht hO
  unfold wid
  omega
theorem oIn.c {O : Int → Int → Int} (h : oIn O) : ∀ q, in6 q → in9 (-O q 6) := fun q hq => by have := h q hq; omega
theorem c_cost {S : XS} {M N : YM} {O : Int → Int → Int} (R : Rel M) (hA : cAt M O) : rm S 4 101 [yr 0] M N (fun r M' N' => ∃ v : Int, some (yi v) = r ∧ (v = cost M O ∧ wFr M M') ∧ N = N') := by
  refine ⟨xe_101, m_101, Nat.le_of_ble_eq_true rfl, ?_⟩
  refine r_run 2 (pc' := 2) (ls' := [some (yr 0), none]) (st' := [yi 0, yr 0]) (M' := M) (N' := N) rfl ?_
  refine r_virtual (mj := 100) (b := 0) (as := [yi 0]) (rest := []) f_101_2 (by decide) rfl m_100 (by decide) (by decide) (by decide) rfl rfl (Nat.le_of_ble_eq_true rfl) (by omega) (c_corner (w := 0) hA) ?_
  rintro _ M2 _ ⟨rfl, ⟨f2, k39⟩, rfl⟩
  have q2 : wFr M M2 := ⟨fun c h1 h2 h3 => f2 c h2, fun k _ _ => by rw [f2 0 (by decide)]⟩
  have R2 := R.congr q2.eqn
  have b9 : M2 75 9 = M 75 9 := by rw [f2 75 (by decide)]
  have b4 : M2 1 4 = M 75 10 := by rw [f2 1 (by decide)]; exact R.t.2.2.1
  have l10 := law_in R
  have e59 := R.t.2.1
  have n39 : ∀ q, in6 q → -2147483648 ≤ M2 39 q ∧ M2 39 q < 2147483648 := fun q hq => by have := corner_in hA.o 0 q hq; rw [k39 q hq]; omega
  refine r_run 5 (pc' := 16) (ls' := [some (yr 0), none]) (st' := [yi (M2 1 4), yr 26]) (M' := M2) (N' := N) rfl ?_
  refine r_aald (r := 49 + 3 * M2 1 4) (kd := 105) (n := 6) f_101_16 (by decide) (by decide) (by decide) (by decide) (by omega) (rf_text (by omega)) ?_
  refine r_run 5 (pc' := 26) (ls' := [some (yr 0), none]) (st' := [yr 40, yr 39, yi 1, yr (49 + 3 * M2 1 4)]) (M' := M2) (N' := N) rfl ?_
  refine r_virtual (mj := 46) (b := 49 + 3 * M2 1 4) (as := [yi 1, yr 39, yr 40]) (rest := []) f_101_26 (by decide) rfl m_46 (by decide) (by omega) (by rw [(yk_text (by omega))]; rfl) rfl rfl (Nat.le_of_ble_eq_true rfl) (by omega) (c_tellR1 (t := M2 1 4) (p := 1) R2.t (by omega) (by omega) n39) ?_
  rintro _ M3 _ ⟨v, rfl, ⟨hv, f3⟩, rfl⟩
  have hv2 : v = txT M (M 75 10) 1 (fun q => -O q 6) := by
    rw [hv, b4, txT_congr R2.t (t := M 75 10) (by omega) (by omega) (fun q hq => (k39 q hq).trans (corner0 hq)), q2.eqn.eqx.eT]
  have hvr := txT_in R.t (t := M 75 10) l10 (p := 1) (by omega) (nm := fun q => -O q 6) (fun q hq => by have := hA.o.c q hq; omega)
  rw [← hv2] at hvr
  have q3 : wFr M M3 := q2.trans ⟨fun c h1 h2 h3 => f3 c h3, fun k _ _ => by rw [f3 0 (by decide)]⟩
  refine r_run 4 (pc' := 34) (ls' := [some (yr 0), some (yi v)]) (st' := [yi v, yi 99, yi 0]) (M' := M3) (N' := N) rfl ?_
  refine r_min f_101_34 (by omega) (by omega) (Nat.le_of_ble_eq_true rfl) (by omega) (fun v34 hv34 => ?_)
  refine r_max f_101_37 (by omega) (by omega) (Nat.le_of_ble_eq_true rfl) (by omega) (fun v37 hv37 => ?_)
  refine r_iret m_101 rfl f_101_40 ?_
  refine ⟨_, rfl, ⟨?_, q3⟩, rfl⟩
  unfold cost
  rw [← hv2]
  unfold imax imin
  (repeat' split) <;> omega
theorem m_inch_l {S : XS} {d : Nat} {O : Int → Int → Int} {N : YM} {Q : Option YV → YM → YM → Prop} (hd : 1 ≤ d) {j : Nat} : ∀ {q : Int} {M : YM}, 0 ≤ q → q + j = 6 → mAt M O → (∀ M', (∀ c, c ≠ 89 → M' c = M c) → (∀ i, 0 ≤ i → i < q → M' 89 i = M 89 i) → (∀ i, q ≤ i → i < 6 → M' 89 i = -O i 6) → ry S d 162 25 [some (yr 75), some (yi 6)] [] M' N Q) → ry S d 162 2 [some (yr 75), some (yi q)] [] M N Q := by
  induction j with
  | zero =>
    intro q M h0 h1 hA kk
    refine r_run 2 (pc' := 5) (ls' := [some (yr 75), some (yi q)]) (st' := [yi 6, yi q]) (M' := M) (N' := N) rfl ?_
    refine r_icmp_ge (pc := 5) f_162_5 (by omega) (by omega) (fun h5 => ?_) (fun h5 => ?_)
    · have e : q = 6 := by omega
      subst e
      exact kk M (fun c _ => rfl) (fun i _ _ => rfl) (fun i i0 i1 => by omega)
    · exfalso; omega
  | succ j ih =>
    intro q M h0 h1 hA kk
    have ha := hA.lh (q := q) ⟨h0, by omega⟩
    refine r_run 2 (pc' := 5) (ls' := [some (yr 75), some (yi q)]) (st' := [yi 6, yi q]) (M' := M) (N' := N) rfl ?_
    refine r_icmp_ge (pc := 5) f_162_5 (by omega) (by omega) (fun h5 => ?_) (fun h5 => ?_)
    · exfalso; omega
    · refine r_run 5 (pc' := 15) (ls' := [some (yr 75), some (yi q)]) (st' := [yi q, yr 75, yi q, yr 89]) (M' := M) (N' := N) rfl ?_
      refine r_virtual (mj := 149) (b := 75) (as := [yi q]) (rest := [yi q, yr 89]) f_162_15 (by decide) rfl m_149 (by decide) (by decide) (by decide) rfl rfl (Nat.le_of_ble_eq_true rfl) (by omega) (m_low (by omega)) ?_
      rintro _ _ _ ⟨v15, rfl, hv15, rfl, rfl⟩
      refine r_iast (n := 6) f_162_18 (by decide) (by decide) (by decide) (by omega) ?_
      refine r_run 2 (pc' := 2) (ls' := [some (yr 75), some (yi (q + 1))]) (st' := []) (M' := (yu M 89 q v15)) (N' := N) rfl ?_
      have hc : -O q 6 = v15 := by omega
      rw [yu_row, ← hc]
      refine ih (by omega) (by omega) (hA.fr (yrow_ne (by decide))) fun M' g1 g2 g3 => kk M' (fun c hc => by rw [g1 c hc, yrow_ne hc]) (fun i i0 i1 => ?_) (fun i i0 i1 => ?_)
      · rw [g2 i i0 (by omega), yrow_at, up_ne (by omega)]
      · by_cases hi : i = q
        · rw [hi, g2 q h0 (by omega), yrow_at, up_at]
        · exact g3 i (by omega) i1
theorem m_cost {S : XS} {M N : YM} {O : Int → Int → Int} (R : Rel M) (hA : mAt M O) : rm S 4 162 [yr 75] M N (fun r M' N' => ∃ v : Int, some (yi v) = r ∧ (v = cost M O ∧ ∀ c, c ≠ 88 → c ≠ 89 → M' c = M c) ∧ N = N') := by
  refine ⟨xe_162, m_162, Nat.le_of_ble_eq_true rfl, ?_⟩
  refine r_run 2 (pc' := 2) (ls' := [some (yr 75), some (yi 0)]) (st' := []) (M' := M) (N' := N) rfl ?_
  refine m_inch_l (O := O) (j := 6) (by omega) (Int.le_refl 0) rfl hA fun MB g1 _ gB => ?_
  have eB : eqn M MB := eqn.ofm fun c hc => g1 c (by omega)
  have RB := R.congr eB
  have nB : ∀ q, in6 q → -2147483648 ≤ MB 89 q ∧ MB 89 q < 2147483648 := fun q hq => by have := hA.o.c q hq; rw [gB q hq.1 (by omega)]; omega
  refine r_run 2 (pc' := 27) (ls' := [some (yr 75), some (yi 6)]) (st' := [yi 1, yr 75]) (M' := MB) (N' := N) rfl ?_
  refine r_virtual (mj := 134) (b := 75) (as := [yi 1]) (rest := []) f_162_27 (by decide) rfl m_134 (by decide) (by decide) (by decide) rfl rfl (Nat.le_of_ble_eq_true rfl) (by omega) (m_says1 (p := 1) RB.t.2.2.2.2 RB.t.2.1.2 (law_in RB) (by omega) nB) ?_
  rintro _ MC _ ⟨v, rfl, ⟨hv, hfr⟩, rfl⟩
  have hv2 : v = txT M (M 75 10) 1 (fun q => -O q 6) := by
    rw [hv, eB.e10, txT_congr RB.t (t := M 75 10) (by rw [← eB.e10]; exact law_in RB) (by omega) (fun q hq => gB q hq.1 (by omega)), eB.eqx.eT]
  have hvr := txT_in R.t (t := M 75 10) (law_in R) (p := 1) (by omega) (nm := fun q => -O q 6) (fun q hq => by have := hA.o.c q hq; omega)
  rw [← hv2] at hvr
  refine r_run 2 (pc' := 33) (ls' := [some (yr 75), some (yi 6)]) (st' := [yi 99, yi 0, yi v]) (M' := MC) (N' := N) rfl ?_
  refine r_static (mj := 113) (as := [yi v, yi 0, yi 99]) (rest := []) f_162_33 (by decide) rfl m_113 rfl rfl rfl (Nat.le_of_ble_eq_true rfl) (by omega) (m_within (by omega) (by omega) (by omega)) ?_
  rintro _ _ _ ⟨v33, rfl, hv33, rfl, rfl⟩
  refine r_iret m_162 rfl f_162_36 ?_
  refine ⟨_, rfl, ⟨?_, fun c h1 h2 => by rw [hfr c h1, g1 c h2]⟩, rfl⟩
  unfold cost
  rw [← hv2]
  unfold imax imin
  (repeat' split) <;> omega
noncomputable def fInch (M : YM) : Int := if nV M = 0 then -1 else cost M (nT M)
theorem fInch_eq {M M' : YM} (e : eqn M M') : fInch M' = fInch M := by
  unfold fInch
  rw [e.eqs.eV, e.eqs.eT, e.eC]
theorem c_inch {S : XS} {M N : YM} (R : Rel M) : rm S 6 69 [yr 0] M N (fun r M' _ => ∃ v : Int, some (yi v) = r ∧ v = fInch M ∧ eqn M M') := by
  refine ⟨xe_69, m_69, Nat.le_of_ble_eq_true rfl, ?_⟩
  refine r_run 1 (pc' := 1) (ls' := [some (yr 0)]) (st' := [yr 0]) (M' := M) (N' := N) rfl ?_
  refine r_virtual (mj := 97) (b := 0) (as := []) (rest := []) f_69_1 (by decide) rfl m_97 (by decide) (by decide) (by decide) rfl rfl (Nat.le_of_ble_eq_true rfl) (by omega) (c_can1 R) ?_
  rintro _ M2 _ ⟨v, rfl, ⟨hv, hv01, hat, hBE, hfr, R2, hq, hT⟩, rfl⟩
  refine r_if_eq (pc := 4) f_69_4 (by omega) (fun h4 => ?_) (fun h4 => ?_)
  · refine r_run 1 (pc' := 15) (ls' := [some (yr 0)]) (st' := [yi (-1)]) (M' := M2) (N' := N) rfl ?_
    refine r_iret m_69 rfl f_69_15 ?_
    exact ⟨_, rfl, by unfold fInch; rw [if_pos (by omega)], hq⟩
  · refine r_run 1 (pc' := 8) (ls' := [some (yr 0)]) (st' := [yr 0]) (M' := M2) (N' := N) rfl ?_
    refine r_virtual (mj := 101) (b := 0) (as := []) (rest := []) f_69_8 (by decide) rfl m_101 (by decide) (by decide) (by decide) rfl rfl (Nat.le_of_ble_eq_true rfl) (by omega) (c_cost R2 (hat (by omega))) ?_
    rintro _ M3 _ ⟨v9, rfl, ⟨hv9, e3⟩, rfl⟩
    rw [hq.eC] at hv9
    refine r_run 1 (pc' := 15) (ls' := [some (yr 0)]) (st' := [yi v9]) (M' := M3) (N' := N) rfl ?_
    refine r_iret m_69 rfl f_69_15 ?_
    exact ⟨_, rfl, by unfold fInch; rw [if_neg (by omega)]; exact hv9, hq.trans e3.eqn⟩
theorem m_inch {S : XS} {M N : YM} (R : Rel M) : rm S 6 163 [yr 75] M N (fun r M' _ => ∃ v : Int, some (yi v) = r ∧ v = fInch M ∧ eqn M M') := by
  refine ⟨xe_163, m_163, Nat.le_of_ble_eq_true rfl, ?_⟩
  refine r_run 1 (pc' := 1) (ls' := [some (yr 75)]) (st' := [yr 75]) (M' := M) (N' := N) rfl ?_
  refine r_virtual (mj := 148) (b := 75) (as := []) (rest := []) f_163_1 (by decide) rfl m_148 (by decide) (by decide) (by decide) rfl rfl (Nat.le_of_ble_eq_true rfl) (by omega) (m_can1 R) ?_
  rintro _ M2 _ ⟨v, rfl, ⟨hv, hv01, hat, hBE, hfr, R2, hq⟩, rfl⟩
  refine r_if_eq (pc := 4) f_163_4 (by omega) (fun h4 => ?_) (fun h4 => ?_)
  · refine r_run 1 (pc' := 15) (ls' := [some (yr 75)]) (st' := [yi (-1)]) (M' := M2) (N' := N) rfl ?_
    refine r_iret m_163 rfl f_163_15 ?_
    exact ⟨_, rfl, by unfold fInch; rw [if_pos (by omega)], hq⟩
  · refine r_run 1 (pc' := 8) (ls' := [some (yr 75)]) (st' := [yr 75]) (M' := M2) (N' := N) rfl ?_
    refine r_virtual (mj := 162) (b := 75) (as := []) (rest := []) f_163_8 (by decide) rfl m_162 (by decide) (by decide) (by decide) rfl rfl (Nat.le_of_ble_eq_true rfl) (by omega) (m_cost R2 (hat (by omega))) ?_
    rintro _ M3 _ ⟨v9, rfl, ⟨hv9, e3'⟩, rfl⟩
    rw [hq.eC] at hv9
    have e3 : eqn M2 M3 := eqn.ofm fun c hc => e3' c (by omega) (by omega)
    refine r_run 1 (pc' := 15) (ls' := [some (yr 75)]) (st' := [yi v9]) (M' := M3) (N' := N) rfl ?_
    refine r_iret m_163 rfl f_163_15 ?_
    exact ⟨_, rfl, by unfold fInch; rw [if_neg (by omega)]; exact hv9, hq.trans e3⟩
theorem p_inch {S : XS} {M N : YM}  (R : Rel M) : pri S 69 163 [] M N := pri_q fInch (rm_deep (by decide) (c_inch  R)) (fun M N R => rm_deep (by decide) (m_inch  R)) (fun M' _ e => fInch_eq e) R
