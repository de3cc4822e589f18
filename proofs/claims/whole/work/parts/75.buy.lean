/-! buying -/
def bF (n : Nat) (ok wd dg : Int → Int) : Nat → Int → Int → Int → Int × Int
  | 0, _, b, g => (b, g)
  | j + 1, u, b, g => if srtB n u 5 = true ∧ ok u = 1 then (if b = -4611686018427387904 ∨ wd u < b then bF n ok wd dg j (u + 1) (wd u) (dg u) else bF n ok wd dg j (u + 1) b g) else bF n ok wd dg j (u + 1) b g
theorem bF_no {n : Nat} {ok wd dg : Int → Int} {j : Nat} {u b g : Int} (h : ¬ (srtB n u 5 = true ∧ ok u = 1)) : bF n ok wd dg (j + 1) u b g = bF n ok wd dg j (u + 1) b g := if_neg h
theorem bF_old {n : Nat} {ok wd dg : Int → Int} {j : Nat} {u b g : Int} (h : ¬ (b = -4611686018427387904 ∨ wd u < b)) : bF n ok wd dg (j + 1) u b g = bF n ok wd dg j (u + 1) b g := by
  by_cases c : srtB n u 5 = true ∧ ok u = 1
  · exact (if_pos c).trans (if_neg h)
  · exact if_neg c
theorem bF_new {n : Nat} {ok wd dg : Int → Int} {j : Nat} {u b g : Int} (c : srtB n u 5 = true) (c2 : ok u = 1) (h : b = -4611686018427387904 ∨ wd u < b) : bF n ok wd dg (j + 1) u b g = bF n ok wd dg j (u + 1) (wd u) (dg u) := (if_pos ⟨c, c2⟩).trans (if_pos h)
theorem bF_skip {n : Nat} {ok wd dg : Int → Int} {k : Nat} : ∀ {j : Nat} {u b g : Int}, (∀ i, u ≤ i → i < u + k → srtB n i 5 = false) → bF n ok wd dg (k + j) u b g = bF n ok wd dg j (u + k) b g := by
  induction k with
  | zero => intro j u b g _; rw [Nat.zero_add, show u + ((0 : Nat) : Int) = u by omega]
  | succ k ih =>
    intro j u b g h
    rw [show k + 1 + j = (k + j) + 1 by omega, bF_no (by rw [h u (by omega) (by omega)]; intro c; exact absurd c.1 (by decide)), ih (fun i i0 i1 => h i (by omega) (by omega)), show u + 1 + (k : Int) = u + ((k + 1 : Nat) : Int) by omega]
abbrev bIn (b : Int) : Prop := b = -4611686018427387904 ∨ (0 ≤ b ∧ b < 4294967296)
theorem bF_in {n : Nat} {ok wd dg : Int → Int} (h : ∀ u, ok u = 1 → 0 ≤ wd u ∧ wd u < 4294967296) {j : Nat} : ∀ {u b g : Int}, bIn b → bIn (bF n ok wd dg j u b g).1 := by
  induction j with
  | zero => intro u b g hb; exact hb
  | succ j ih =>
    intro u b g hb
    unfold bF
    split
    · rename_i c
      split
      · exact ih (Or.inr (h u c.2))
      · exact ih hb
    · exact ih hb
theorem spY_o {B E L sk : Int → Int} {n : Int} (h : spY B E L sk n) (hb : ∀ q, in6 q → (0 ≤ B q ∧ B q ≤ 1001) ∧ (-2 ≤ E q ∧ E q ≤ 999)) : oIn (spO B E L sk n) := fun q hq => by
  have a := spK_in h hq
  have b := hb q hq
  omega
theorem xV_one {M : YM} {B E : Int → Int} (h : xV M B E = 1) : spY B E (M 77) sk0 (M 75 2) := by
  by_cases c : spY B E (M 77) sk0 (M 75 2)
  · exact c
  · rw [xV_no c] at h; exact absurd h (by decide)
noncomputable def okB (M : YM) (n u : Int) : Int := xV M (bB M n u) (bE M n u)
noncomputable def wdB (M : YM) (t n u : Int) : Int := wid M t (xT M (bB M n u) (bE M n u))
def dgB (n u : Int) : Int := dgs n.toNat u 1 0
theorem wdB_in {M : YM} (R : Rel M) {t n : Int} (hn : 0 ≤ n ∧ n ≤ 4) (ht : 0 ≤ t ∧ t < M 75 9) : ∀ u, okB M n u = 1 → 0 ≤ wdB M t n u ∧ wdB M t n u < 4294967296 := fun u h => wid_in R.t ht (spY_o (xV_one h) (bB_in R hn))
noncomputable def buF (M : YM) (t n : Int) : Int × Int := bF n.toNat (okB M n) (wdB M t n) (dgB n) (p6 n.toNat).toNat 0 (-4611686018427387904) 0
noncomputable def fBuy (t c w : Int) (M : YM) : Int := if (t < 0 ∨ M 75 9 ≤ t) ∨ (c < 0 ∨ 999 < c) ∨ (w < 0 ∨ 1 < w) ∨ nV M = 0 then -4611686018427387904 else if (buF M t (nIn M (nT M) c)).1 = -4611686018427387904 ∨ w = 1 then (buF M t (nIn M (nT M) c)).1 else (buF M t (nIn M (nT M) c)).2
theorem eqn.eBu {M M' : YM} (e : eqn M M') : buF M' = buF M := by
  have h1 : okB M' = okB M := by
    funext n u
    unfold okB
    rw [e.eqs.eX, e.eqs.eBB.1, e.eqs.eBB.2]
  have h2 : wdB M' = wdB M := by
    funext t n u
    unfold wdB
    rw [e.eqs.eZ, e.eqs.eBB.1, e.eqs.eBB.2, e.eqx.eW]
  funext t n
  unfold buF
  rw [h1, h2]
theorem fBuy_eq {t c w : Int} {M M' : YM} (e : eqn M M') : fBuy t c w M' = fBuy t c w M := by
  unfold fBuy
  rw [e.e9, e.eqs.eV, e.eqs.eT, e.eN, e.eBu]
theorem dgt_in {j : Nat} : ∀ {w : Int}, 0 ≤ dgt j w ∧ dgt j w ≤ 5 := by
  induction j with
  | zero =>
    intro w
    have := Int.emod_nonneg w (show (6 : Int) ≠ 0 by decide)
    have := Int.emod_lt_of_pos w (show (0 : Int) < 6 by decide)
    show 0 ≤ w % 6 ∧ w % 6 ≤ 5
    omega
  | succ j ih => intro w; exact ih
theorem repR.in {n w : Int} {R : Int → Int} (h : repR n w R) : ∀ k, 0 ≤ k → k < n → 0 ≤ R k ∧ R k ≤ 5 := fun k k0 k1 => by
  rw [h k k0 k1]; exact dgt_in
theorem dgt_zero {j : Nat} : dgt j 0 = 0 := by
  induction j with
  | zero => rfl
  | succ j ih => exact ih
theorem srt_zero {n : Int} (hn : 0 ≤ n ∧ n ≤ 4) : srtB n.toNat 0 5 = true := by
  rcases (show n = 0 ∨ n = 1 ∨ n = 2 ∨ n = 3 ∨ n = 4 by omega) with rfl | rfl | rfl | rfl | rfl <;> rfl
theorem c_buy_l {S : XS} {d : Nat} {t c w n e : Int} {M0 N : YM} {Q : Option YV → YM → YM → Prop} (hd : 5 ≤ d) (hn : 0 ≤ n ∧ n ≤ 4) (ht : 0 ≤ t ∧ t < M0 75 9) (R0 : Rel M0) (he : e = p6 n.toNat) {j : Nat} : ∀ {u b g : Int} {M : YM} {l10 : Option YV}, 0 ≤ u → u + j = e → bIn b → Rel M → eqn M0 M → tied M (M 77) sk0 (M 75 2) → (∀ M' l10, Rel M' → eqn M0 M' → ry S d 70 145 [some (yr 0), some (yi t), some (yi c), some (yi w), some (yi n), some (yi e), some (yj (bF n.toNat (okB M0 n) (wdB M0 t n) (dgB n) j u b g).1), none, some (yi (bF n.toNat (okB M0 n) (wdB M0 t n) (dgB n) j u b g).2), some (yi e), l10, none] [] M' N Q) → ry S d 70 66 [some (yr 0), some (yi t), some (yi c), some (yi w), some (yi n), some (yi e), some (yj b), none, some (yi g), some (yi u), l10, none] [] M N Q := by
  induction j with
  | zero =>
    intro u b g M l10 h0 h1 hb R q T kk
    have pe := p6_in hn
    have t6 := R0.t.2.1
    refine r_run 2 (pc' := 70) (ls' := [some (yr 0), some (yi t), some (yi c), some (yi w), some (yi n), some (yi e), some (yj b), none, some (yi g), some (yi u), l10, none]) (st' := [yi e, yi u]) (M' := M) (N' := N) rfl ?_
    refine r_icmp_ge (pc := 70) f_70_70 (by omega) (by omega) (fun h70 => ?_) (fun h70 => ?_)
    · rw [show u = e by omega]
      exact kk M l10 R q
    · exfalso; omega
  | succ j ih =>
    intro u b g M l10 h0 h1 hb R q T kk
    have pe := p6_in hn
    have t6 := R0.t.2.1
    refine r_run 2 (pc' := 70) (ls' := [some (yr 0), some (yi t), some (yi c), some (yi w), some (yi n), some (yi e), some (yj b), none, some (yi g), some (yi u), l10, none]) (st' := [yi e, yi u]) (M' := M) (N' := N) rfl ?_
    refine r_icmp_ge (pc := 70) f_70_70 (by omega) (by omega) (fun h70 => ?_) (fun h70 => ?_)
    · exfalso; omega
    · refine r_run 2 (pc' := 77) (ls' := [some (yr 0), some (yi t), some (yi c), some (yi w), some (yi n), some (yi e), some (yj b), none, some (yi g), some (yi u), l10, none]) (st' := [yi n, yi u]) (M' := M) (N' := N) rfl ?_
      refine r_static (mj := 103) (as := [yi u, yi n]) (rest := []) f_70_77 (by decide) rfl m_103 rfl rfl rfl (Nat.le_of_ble_eq_true rfl) (by omega) (c_sorted hn (by omega)) ?_
      rintro _ _ _ ⟨v77, rfl, hv77, rfl, rfl⟩
      refine r_if_eq (pc := 80) f_70_80 (by omega) (fun h80 => ?_) (fun h80 => ?_)
      · refine r_run 2 (pc' := 66) (ls' := [some (yr 0), some (yi t), some (yi c), some (yi w), some (yi n), some (yi e), some (yj b), none, some (yi g), some (yi (u + 1)), l10, none]) (st' := []) (M' := M) (N' := N) rfl ?_
        have hsr : srtB n.toNat u 5 = false := by
          rcases hv77 with h | h
          · exfalso; omega
          · exact h.2
        rw [bF_no (by rw [hsr]; intro c; exact absurd c.1 (by decide))] at kk
        exact ih (l10 := l10) (by omega) (by omega) hb R q T kk
      · refine r_run 3 (pc' := 88) (ls' := [some (yr 0), some (yi t), some (yi c), some (yi w), some (yi n), some (yi e), some (yj b), none, some (yi g), some (yi u), l10, none]) (st' := [yi n, yi u, yr 0]) (M' := M) (N' := N) rfl ?_
        refine r_virtual (mj := 104) (b := 0) (as := [yi u, yi n]) (rest := []) f_70_88 (by decide) rfl m_104 (by decide) (by decide) (by decide) rfl rfl (Nat.le_of_ble_eq_true rfl) (by omega) (c_bought R T hn (by omega)) ?_
        rintro _ M2 _ ⟨v88, rfl, ⟨hv88, v01, a2, T2, R2, e2⟩, rfl⟩
        rw [q.eqs.eX, q.eqs.eBB.1, q.eqs.eBB.2] at hv88
        rw [q.eqs.eZ, q.eqs.eBB.1, q.eqs.eBB.2] at a2
        have hok : v88 = okB M0 n u := hv88
        have q2 := q.trans e2
        refine r_if_ne (pc := 91) f_70_91 (by omega) (fun h91 => ?_) (fun h91 => ?_)
        · refine r_run 4 (pc' := 103) (ls' := [some (yr 0), some (yi t), some (yi c), some (yi w), some (yi n), some (yi e), some (yj b), none, some (yi g), some (yi u), l10, none]) (st' := [yi t, yr 26, yr 0]) (M' := M2) (N' := N) rfl ?_
          refine r_aald (r := 49 + 3 * t) (kd := 105) (n := 6) f_70_103 (by decide) (by decide) (by decide) (by decide) (by omega) (rf_text (by omega)) ?_
          refine r_virtual (mj := 99) (b := 0) (as := [yr (49 + 3 * t)]) (rest := []) f_70_104 (by decide) rfl m_99 (by decide) (by decide) (by decide) rfl rfl (Nat.le_of_ble_eq_true rfl) (by omega) (c_wid R2 (by rw [q2.e9]; exact ht) (a2 (by omega))) ?_
          rintro _ M3 _ ⟨vw, rfl, ⟨w3, W3, R3, e3⟩, rfl⟩
          rw [q2.eqx.eW] at w3
          have hwd : vw = wdB M0 t n u := w3
          have wr := wdB_in R0 hn ht u (by omega)
          rw [← hwd] at wr
          have q3 := q2.trans e3
          have T3 : tied M3 (M3 77) sk0 (M3 75 2) := by
            rw [e3.eqs.2.2.2.2, e3.eqs.2.1]
            exact T2.fr (W3.1 38 (by decide) (by decide) (by decide)) (by rw [W3.1 33 (by decide) (by decide) (by decide)])
          refine r_run 3 (pc' := 114) (ls' := [some (yr 0), some (yi t), some (yi c), some (yi w), some (yi n), some (yi e), some (yj b), none, some (yi g), some (yi u), some (yj vw), none]) (st' := [yj (-4611686018427387904), yj b]) (M' := M3) (N' := N) rfl ?_
          refine r_lcmp f_70_114 (by omega) (by omega) (fun v114 hv114 => ?_)
          refine r_if_eq (pc := 115) f_70_115 (by omega) (fun h115 => ?_) (fun h115 => ?_)
          · refine r_run 4 (pc' := 134) (ls' := [some (yr 0), some (yi t), some (yi c), some (yi w), some (yi n), some (yi e), some (yj vw), none, some (yi g), some (yi u), some (yj vw), none]) (st' := [yi n, yi u]) (M' := M3) (N' := N) rfl ?_
            refine r_static (mj := 105) (as := [yi u, yi n]) (rest := []) f_70_134 (by decide) rfl m_105 rfl rfl rfl (Nat.le_of_ble_eq_true rfl) (by omega) (c_digits hn (by omega)) ?_
            rintro _ _ _ ⟨vd, rfl, hvd, rfl, rfl⟩
            refine r_run 3 (pc' := 66) (ls' := [some (yr 0), some (yi t), some (yi c), some (yi w), some (yi n), some (yi e), some (yj vw), none, some (yi vd), some (yi (u + 1)), some (yj vw), none]) (st' := []) (M' := M3) (N' := N) rfl ?_
            have hsr : srtB n.toNat u 5 = true := by
              rcases hv77 with h | h
              · exact h.2
              · exfalso; omega
            have hd2 : vd = dgB n u := hvd
            rw [bF_new hsr (by omega) (by omega), ← hwd, ← hd2] at kk
            exact ih (l10 := some (yj vw)) (by omega) (by omega) (Or.inr wr) R3 q3 T3 kk
          · refine r_run 2 (pc' := 122) (ls' := [some (yr 0), some (yi t), some (yi c), some (yi w), some (yi n), some (yi e), some (yj b), none, some (yi g), some (yi u), some (yj vw), none]) (st' := [yj b, yj vw]) (M' := M3) (N' := N) rfl ?_
            refine r_lcmp f_70_122 (by omega) (by omega) (fun v122 hv122 => ?_)
            refine r_if_ge (pc := 123) f_70_123 (by omega) (fun h123 => ?_) (fun h123 => ?_)
            · refine r_run 2 (pc' := 66) (ls' := [some (yr 0), some (yi t), some (yi c), some (yi w), some (yi n), some (yi e), some (yj b), none, some (yi g), some (yi (u + 1)), some (yj vw), none]) (st' := []) (M' := M3) (N' := N) rfl ?_
              rw [bF_old (by omega)] at kk
              exact ih (l10 := some (yj vw)) (by omega) (by omega) hb R3 q3 T3 kk
            · refine r_run 4 (pc' := 134) (ls' := [some (yr 0), some (yi t), some (yi c), some (yi w), some (yi n), some (yi e), some (yj vw), none, some (yi g), some (yi u), some (yj vw), none]) (st' := [yi n, yi u]) (M' := M3) (N' := N) rfl ?_
              refine r_static (mj := 105) (as := [yi u, yi n]) (rest := []) f_70_134 (by decide) rfl m_105 rfl rfl rfl (Nat.le_of_ble_eq_true rfl) (by omega) (c_digits hn (by omega)) ?_
              rintro _ _ _ ⟨vd, rfl, hvd, rfl, rfl⟩
              refine r_run 3 (pc' := 66) (ls' := [some (yr 0), some (yi t), some (yi c), some (yi w), some (yi n), some (yi e), some (yj vw), none, some (yi vd), some (yi (u + 1)), some (yj vw), none]) (st' := []) (M' := M3) (N' := N) rfl ?_
              have hsr : srtB n.toNat u 5 = true := by
                rcases hv77 with h | h
                · exact h.2
                · exfalso; omega
              have hd2 : vd = dgB n u := hvd
              rw [bF_new hsr (by omega) (by omega), ← hwd, ← hd2] at kk
              exact ih (l10 := some (yj vw)) (by omega) (by omega) (Or.inr wr) R3 q3 T3 kk
        · refine r_run 3 (pc' := 66) (ls' := [some (yr 0), some (yi t), some (yi c), some (yi w), some (yi n), some (yi e), some (yj b), none, some (yi g), some (yi (u + 1)), l10, none]) (st' := []) (M' := M2) (N' := N) rfl ?_
          rw [bF_no (by intro c; have := c.2; omega)] at kk
          exact ih (l10 := l10) (by omega) (by omega) hb R2 q2 T2 kk
theorem dgB_in {n : Int} (hn : 0 ≤ n ∧ n ≤ 4) (u : Int) : -2147483648 ≤ dgB n u ∧ dgB n u < 2147483648 := by
  have m : ∀ w : Int, 0 ≤ w % 6 ∧ w % 6 < 6 := fun w => ⟨Int.emod_nonneg _ (by decide), Int.emod_lt_of_pos _ (by decide)⟩
  unfold dgB
  rcases (show n = 0 ∨ n = 1 ∨ n = 2 ∨ n = 3 ∨ n = 4 by omega) with rfl | rfl | rfl | rfl | rfl
  · show (-2147483648 : Int) ≤ 0 ∧ (0 : Int) < 2147483648; decide
  · have a := m u
    show _ ≤ 0 + 1 * (u % 6 + 1) ∧ 0 + 1 * (u % 6 + 1) < _
    omega
  · have a := m u; have b := m (u / 6)
    show _ ≤ 0 + 1 * (u % 6 + 1) + 1 * 10 * (u / 6 % 6 + 1) ∧ 0 + 1 * (u % 6 + 1) + 1 * 10 * (u / 6 % 6 + 1) < _
    omega
  · have a := m u; have b := m (u / 6); have c := m (u / 6 / 6)
    show _ ≤ 0 + 1 * (u % 6 + 1) + 1 * 10 * (u / 6 % 6 + 1) + 1 * 10 * 10 * (u / 6 / 6 % 6 + 1) ∧ 0 + 1 * (u % 6 + 1) + 1 * 10 * (u / 6 % 6 + 1) + 1 * 10 * 10 * (u / 6 / 6 % 6 + 1) < _
    omega
  · have a := m u; have b := m (u / 6); have c := m (u / 6 / 6); have d := m (u / 6 / 6 / 6)
    show _ ≤ 0 + 1 * (u % 6 + 1) + 1 * 10 * (u / 6 % 6 + 1) + 1 * 10 * 10 * (u / 6 / 6 % 6 + 1) + 1 * 10 * 10 * 10 * (u / 6 / 6 / 6 % 6 + 1) ∧ 0 + 1 * (u % 6 + 1) + 1 * 10 * (u / 6 % 6 + 1) + 1 * 10 * 10 * (u / 6 / 6 % 6 + 1) + 1 * 10 * 10 * 10 * (u / 6 / 6 / 6 % 6 + 1) < _
    omega
theorem bF2_in {n : Nat} {ok wd dg : Int → Int} (h : ∀ u, -2147483648 ≤ dg u ∧ dg u < 2147483648) {j : Nat} : ∀ {u b g : Int}, (-2147483648 ≤ g ∧ g < 2147483648) → -2147483648 ≤ (bF n ok wd dg j u b g).2 ∧ (bF n ok wd dg j u b g).2 < 2147483648 := by
  induction j with
  | zero => intro u b g hb; exact hb
  | succ j ih =>
    intro u b g hb
    unfold bF
    split
    · split
      · exact ih (h u)
      · exact ih hb
    · exact ih hb
theorem buF2_in {M : YM} (_R : Rel M) {t n : Int} (hn : 0 ≤ n ∧ n ≤ 4) : -2147483648 ≤ (buF M t n).2 ∧ (buF M t n).2 < 2147483648 := bF2_in (dgB_in hn) (by decide)
theorem c_buy {S : XS} {M N : YM} {t c w : Int} (hqt : -2147483648 ≤ t ∧ t < 2147483648) (hqc : -2147483648 ≤ c ∧ c < 2147483648) (hqw : -2147483648 ≤ w ∧ w < 2147483648) (R : Rel M) : rm S 7 70 [yr 0, yi t, yi c, yi w] M N (fun r M' _ => ∃ v : Int, some (yj v) = r ∧ v = fBuy t c w M ∧ eqn M M') := by
  refine ⟨xe_70, m_70, Nat.le_of_ble_eq_true rfl, ?_⟩
  refine r_run 2 (pc' := 2) (ls' := [some (yr 0), some (yi t), some (yi c), some (yi w), none, none, none, none, none, none, none, none]) (st' := [yi t, yr 0]) (M' := M) (N' := N) rfl ?_
  refine r_virtual (mj := 94) (b := 0) (as := [yi t]) (rest := []) f_70_2 (by decide) rfl m_94 (by decide) (by decide) (by decide) rfl rfl (Nat.le_of_ble_eq_true rfl) (by omega) (c_isText (by assumption) (by have := R.t.1; have := R.t.2.1; omega)) ?_
  rintro _ _ _ ⟨vt, rfl, hvt, rfl, rfl⟩
  have e5 := R.t.1
  have e59 := R.t.2.1
  refine r_if_eq (pc := 5) f_70_5 (by omega) (fun h5 => ?_) (fun h5 => ?_)
  · refine r_run 1 (pc' := 38) (ls' := [some (yr 0), some (yi t), some (yi c), some (yi w), none, none, none, none, none, none, none, none]) (st' := [yj (-4611686018427387904)]) (M' := M) (N' := N) rfl ?_
    refine r_lret m_70 rfl f_70_38 ?_
    exact ⟨_, rfl, by unfold fBuy; rw [if_pos (by omega)], eqn.refl⟩
  · refine r_run 3 (pc' := 13) (ls' := [some (yr 0), some (yi t), some (yi c), some (yi w), none, none, none, none, none, none, none, none]) (st' := [yi 999, yi 0, yi c]) (M' := M) (N' := N) rfl ?_
    refine r_static (mj := 90) (as := [yi c, yi 0, yi 999]) (rest := []) f_70_13 (by decide) rfl m_90 rfl rfl rfl (Nat.le_of_ble_eq_true rfl) (by omega) (c_within (by omega) (by omega) (by omega)) ?_
    rintro _ _ _ ⟨v13, rfl, hv13, rfl, rfl⟩
    refine r_if_eq (pc := 16) f_70_16 (by omega) (fun h16 => ?_) (fun h16 => ?_)
    · refine r_run 1 (pc' := 38) (ls' := [some (yr 0), some (yi t), some (yi c), some (yi w), none, none, none, none, none, none, none, none]) (st' := [yj (-4611686018427387904)]) (M' := M) (N' := N) rfl ?_
      refine r_lret m_70 rfl f_70_38 ?_
      exact ⟨_, rfl, by unfold fBuy; rw [if_pos (by omega)], eqn.refl⟩
    · refine r_run 3 (pc' := 22) (ls' := [some (yr 0), some (yi t), some (yi c), some (yi w), none, none, none, none, none, none, none, none]) (st' := [yi 1, yi 0, yi w]) (M' := M) (N' := N) rfl ?_
      refine r_static (mj := 90) (as := [yi w, yi 0, yi 1]) (rest := []) f_70_22 (by decide) rfl m_90 rfl rfl rfl (Nat.le_of_ble_eq_true rfl) (by omega) (c_within (by omega) (by omega) (by omega)) ?_
      rintro _ _ _ ⟨v22, rfl, hv22, rfl, rfl⟩
      refine r_if_eq (pc := 25) f_70_25 (by omega) (fun h25 => ?_) (fun h25 => ?_)
      · refine r_run 1 (pc' := 38) (ls' := [some (yr 0), some (yi t), some (yi c), some (yi w), none, none, none, none, none, none, none, none]) (st' := [yj (-4611686018427387904)]) (M' := M) (N' := N) rfl ?_
        refine r_lret m_70 rfl f_70_38 ?_
        exact ⟨_, rfl, by unfold fBuy; rw [if_pos (by omega)], eqn.refl⟩
      · refine r_run 1 (pc' := 29) (ls' := [some (yr 0), some (yi t), some (yi c), some (yi w), none, none, none, none, none, none, none, none]) (st' := [yr 0]) (M' := M) (N' := N) rfl ?_
        refine r_virtual (mj := 97) (b := 0) (as := []) (rest := []) f_70_29 (by decide) rfl m_97 (by decide) (by decide) (by decide) rfl rfl (Nat.le_of_ble_eq_true rfl) (by omega) (c_can1 R) ?_
        rintro _ M2 _ ⟨v, rfl, ⟨hv, hv01, hat, hBE, hfr, R2, hq, hT⟩, rfl⟩
        refine r_if_ne (pc := 32) f_70_32 (by omega) (fun h32 => ?_) (fun h32 => ?_)
        · refine r_run 2 (pc' := 41) (ls' := [some (yr 0), some (yi t), some (yi c), some (yi w), none, none, none, none, none, none, none, none]) (st' := [yi c, yr 0]) (M' := M2) (N' := N) rfl ?_
          refine r_virtual (mj := 102) (b := 0) (as := [yi c]) (rest := []) f_70_41 (by decide) rfl m_102 (by decide) (by decide) (by decide) rfl rfl (Nat.le_of_ble_eq_true rfl) (by omega) (c_inches R2 (hat (by omega)) (by omega)) ?_
          rintro _ M3 _ ⟨n, rfl, ⟨hn, W3⟩, rfl⟩
          rw [hq.eN] at hn
          have hn4 := @nIn_in M (nT M) c (by omega)
          rw [← hn] at hn4
          have q3 := hq.trans W3.eqn
          have R3 := R.congr q3
          have T3 : tied M3 (M3 77) sk0 (M3 75 2) := by
            rw [q3.eqs.2.2.2.2, q3.eqs.2.1]
            exact hT.fr (W3.1 38 (by decide) (by decide) (by decide)) (by rw [W3.1 33 (by decide) (by decide) (by decide)])
          refine r_run 3 (pc' := 50) (ls' := [some (yr 0), some (yi t), some (yi c), some (yi w), some (yi n), none, none, none, none, none, none, none]) (st' := [yi n, yi 6]) (M' := M3) (N' := N) rfl ?_
          refine r_static (mj := 106) (as := [yi 6, yi n]) (rest := []) f_70_50 (by decide) rfl m_106 rfl rfl rfl (Nat.le_of_ble_eq_true rfl) (by omega) (c_power hn4) ?_
          rintro _ _ _ ⟨e, rfl, he, rfl, rfl⟩
          refine r_run 7 (pc' := 66) (ls' := [some (yr 0), some (yi t), some (yi c), some (yi w), some (yi n), some (yi e), some (yj (-4611686018427387904)), none, some (yi 0), some (yi 0), none, none]) (st' := []) (M' := M3) (N' := N) rfl ?_
          have pe := p6_in hn4
          refine c_buy_l (M0 := M) (j := (p6 n.toNat).toNat) (l10 := none) (by omega) hn4 ⟨by omega, by omega⟩ R he (Int.le_refl 0) (by omega) (Or.inl rfl) R3 q3 T3 fun M5 l10 R5 q5 => ?_
          have bi : bIn (buF M t n).1 := bF_in (wdB_in R hn4 ⟨by omega, by omega⟩) (Or.inl rfl)
          have gi := buF2_in R (t := t) hn4
          refine r_run 2 (pc' := 150) (ls' := [some (yr 0), some (yi t), some (yi c), some (yi w), some (yi n), some (yi e), some (yj ((buF M t n).1)), none, some (yi ((buF M t n).2)), some (yi e), l10, none]) (st' := [yj (-4611686018427387904), yj ((buF M t n).1)]) (M' := M5) (N' := N) rfl ?_
          refine r_lcmp f_70_150 (by omega) (by omega) (fun v150 hv150 => ?_)
          refine r_if_eq (pc := 151) f_70_151 (by omega) (fun h151 => ?_) (fun h151 => ?_)
          · refine r_run 2 (pc' := 167) (ls' := [some (yr 0), some (yi t), some (yi c), some (yi w), some (yi n), some (yi e), some (yj ((buF M t n).1)), none, some (yi ((buF M t n).2)), some (yi e), l10, none]) (st' := [yj ((buF M t n).1)]) (M' := M5) (N' := N) rfl ?_
            refine r_lret m_70 rfl f_70_167 ?_
            exact ⟨_, rfl, by unfold fBuy; rw [if_neg (by omega), ← hn, if_pos (by omega)], q5⟩
          · refine r_run 2 (pc' := 156) (ls' := [some (yr 0), some (yi t), some (yi c), some (yi w), some (yi n), some (yi e), some (yj ((buF M t n).1)), none, some (yi ((buF M t n).2)), some (yi e), l10, none]) (st' := [yi 1, yi w]) (M' := M5) (N' := N) rfl ?_
            refine r_icmp_ne (pc := 156) f_70_156 (by omega) (by omega) (fun h156 => ?_) (fun h156 => ?_)
            · refine r_run 1 (pc' := 166) (ls' := [some (yr 0), some (yi t), some (yi c), some (yi w), some (yi n), some (yi e), some (yj ((buF M t n).1)), none, some (yi ((buF M t n).2)), some (yi e), l10, none]) (st' := [yi ((buF M t n).2)]) (M' := M5) (N' := N) rfl ?_
              refine r_i2l f_70_166 (by assumption) ?_
              refine r_lret m_70 rfl f_70_167 ?_
              exact ⟨_, rfl, by unfold fBuy; rw [if_neg (by omega), ← hn, if_neg (by omega)], q5⟩
            · refine r_run 2 (pc' := 167) (ls' := [some (yr 0), some (yi t), some (yi c), some (yi w), some (yi n), some (yi e), some (yj ((buF M t n).1)), none, some (yi ((buF M t n).2)), some (yi e), l10, none]) (st' := [yj ((buF M t n).1)]) (M' := M5) (N' := N) rfl ?_
              refine r_lret m_70 rfl f_70_167 ?_
              exact ⟨_, rfl, by unfold fBuy; rw [if_neg (by omega), ← hn, if_pos (by omega)], q5⟩
        · refine r_run 1 (pc' := 38) (ls' := [some (yr 0), some (yi t), some (yi c), some (yi w), none, none, none, none, none, none, none, none]) (st' := [yj (-4611686018427387904)]) (M' := M2) (N' := N) rfl ?_
          refine r_lret m_70 rfl f_70_38 ?_
          exact ⟨_, rfl, by unfold fBuy; rw [if_pos (by omega)], hq⟩
