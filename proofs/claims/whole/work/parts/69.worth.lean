/-! without a saying; a quantity just so -/
theorem spC_spY {M : YM} (hL : RL M M) {B E : Int → Int} (hb : ∀ q, in6 q → (0 ≤ B q ∧ B q ≤ 1001) ∧ (-2 ≤ E q ∧ E q ≤ 999)) (h : spC B E (M 77) sk0 (M 75 2)) : spY B E (M 77) sk0 (M 75 2) := by
  have e77 : yrow (yrow M 90 B) 91 E 77 = M 77 := by rw [yrow_ne (by decide), yrow_ne (by decide)]
  have e75 : yrow (yrow M 90 B) 91 E 75 = M 75 := by rw [yrow_ne (by decide), yrow_ne (by decide)]
  have e90 : yrow (yrow M 90 B) 91 E 90 = B := by rw [yrow_ne (by decide), yrow_at]
  have e91 : yrow (yrow M 90 B) 91 E 91 = E := yrow_at
  have k := m_canBe (S := (0, fun _ => 0)) (M := yrow (yrow M 90 B) 91 E) (N := M) (w := 0) (n := M 75 2) (by rw [e75]) hL.2.1.1 hL.2.1.2 (by rw [e77]; exact hL.ok) (fun q hq => by rw [e90, e91]; exact hb q hq)
  obtain ⟨e, -, -, n, r, M', N', -, v, -, ⟨R, -, hv, -⟩, -⟩ := k
  rw [e77, e90, e91] at hv
  have h8 := hL.2.1.2
  have hz : ∀ k, 0 ≤ k → k < M 75 2 → bit 0 k = sk0 k := fun k k0 k1 => bit_zero ⟨k0, by omega⟩
  rcases hv with ⟨-, g⟩ | ⟨-, g⟩
  · rw [← spY_congr (fun _ _ => rfl) (fun _ _ => rfl) hz]; exact spY_of g
  · rw [spC_congr (fun _ _ => rfl) (fun _ _ => rfl) hz] at g; exact absurd h g
theorem lvB_mono {O F sk sk' : Int → Int} {j : Nat} : ∀ {s : Int} {B B' : Int → Int}, (∀ i, s ≤ i → i < s + j → sk' i = 0 → sk i = 0) → (∀ q, B q ≤ B' q) → ∀ q, lvB O F sk' j s B q ≤ lvB O F sk j s B' q := by
  induction j with
  | zero => intro s B B' _ h q; exact h q
  | succ j ih =>
    intro s B B' h g q
    unfold lvB
    refine ih (fun i i0 i1 => h i (by omega) (by omega)) (fun x => ?_) q
    have h0 := h s (Int.le_refl _) (by omega)
    have g1 := g x
    have g2 := g (O s)
    by_cases c : sk' s = 0
    · rw [if_pos c, if_pos (h0 c)]
      by_cases e : x = O s
      · rw [e, up_at, up_at]
        unfold imax
        (repeat' split) <;> omega
      · rw [up_ne e, up_ne e]; exact g1
    · rw [if_neg c]
      split
      · by_cases e : x = O s
        · rw [e, up_at]
          unfold imax
          split <;> omega
        · rw [up_ne e]; exact g1
      · exact g1
theorem lvE_mono {O U sk sk' : Int → Int} {j : Nat} : ∀ {s : Int} {B B' : Int → Int}, (∀ i, s ≤ i → i < s + j → sk' i = 0 → sk i = 0) → (∀ q, B' q ≤ B q) → ∀ q, lvE O U sk j s B' q ≤ lvE O U sk' j s B q := by
  induction j with
  | zero => intro s B B' _ h q; exact h q
  | succ j ih =>
    intro s B B' h g q
    unfold lvE
    refine ih (fun i i0 i1 => h i (by omega) (by omega)) (fun x => ?_) q
    have h0 := h s (Int.le_refl _) (by omega)
    have g1 := g x
    have g2 := g (O s)
    by_cases c : sk' s = 0
    · rw [if_pos c, if_pos (h0 c)]
      by_cases e : x = O s
      · rw [e, up_at, up_at]
        unfold imin
        (repeat' split) <;> omega
      · rw [up_ne e, up_ne e]; exact g1
    · rw [if_neg c]
      split
      · by_cases e : x = O s
        · rw [e, up_at]
          unfold imin
          split <;> omega
        · rw [up_ne e]; exact g1
      · exact g1
theorem nY_w {M : YM} (R : Rel M) (h : nY M) (w : Int) : spY (lB M w) (lE M w) (M 77) sk0 (M 75 2) := by
  have h10 := R.s.2.1
  have z : ∀ i, 0 ≤ i → i < 0 + ((M 75 0).toNat : Int) → bit w i = 0 → bit 0 i = 0 := fun i i0 i1 _ => bit_zero ⟨i0, by omega⟩
  refine spC_spY R.l (fun q hq => ⟨by have := lB_in R.s w q hq; omega, by have := lE_in R.s w q hq; omega⟩) ⟨_, h.1, fun q hq => ?_, h.2.1.2⟩
  have k := h.2.1.1 q hq
  have b : lB M w q ≤ lB M 0 q := lvB_mono z (fun _ => Int.le_refl _) q
  have e : lE M 0 q ≤ lE M w q := lvE_mono z (fun _ => Int.le_refl _) q
  omega
theorem nV_one {M : YM} (h : nV M ≠ 0) : nY M := by
  by_cases g : nY M
  · exact g
  · exact absurd (nV_no g) h
/-- links tied, sayings leave, alone -/
theorem c_tieN {S : XS} {M N : YM} (R : Rel M) : rm S 4 35 [yr 33, yr 25, yi (M 1 2), yi (-1)] M N (fun r M' N' => none = r ∧ ((∀ c, c ≠ 33 → c ≠ 38 → M' c = M c) ∧ tied M' (M 77) sk0 (M 75 2)) ∧ N = N') := by
  have g2 := R.l.1
  have g3 := R.l.2.1
  refine rm_post (c_tie (L := M 77) (sk := fun k => if k = -1 then 1 else 0) (by omega) (by omega) (by rw [g2]; exact R.l.ok) (fun k => rfl) (by rw [g2]; exact R.l.clk)) ?_
  rintro _ M2 _ ⟨rfl, ⟨R', v5, hM2, hT, hR, hv5⟩, rfl⟩
  have f2 : ∀ c, c ≠ 33 → c ≠ 38 → M2 c = M c := fun c h1 h2 => by
    rw [← hM2, yu_row, yrow_ne h1, yrow_ne h2]
  refine ⟨rfl, ⟨f2, ?_⟩, rfl⟩
  have k38 : M2 38 = R' := by rw [← hM2, yu_row, yrow_ne (by decide), yrow_at]
  have k5 : M2 33 5 = v5 := by rw [← hM2, yu_at]
  unfold tied
  rw [k38, k5]
  rw [g2] at hT
  exact ⟨tieOk_congr sk_none hT, hR, hv5⟩
theorem c_leave0 {S : XS} {M N : YM} {w : Int} (R : Rel M) : rm S 2 34 [yr 33, yr 1, yi w] M N (fun r M' N' => none = r ∧ ((∀ c, c ≠ 34 → c ≠ 35 → M' c = M c) ∧ ∀ q, in6 q → M' 34 q = lB M w q ∧ M' 35 q = lE M w q) ∧ N = N') := by
  have g1 := R.s.2.1
  refine rm_post (c_leave (w := w) (by omega) (by omega) R.s.csy) ?_
  rintro _ _ _ ⟨rfl, ⟨B, E, rfl, hB, hE⟩, rfl⟩
  exact ⟨rfl, ⟨fun c h1 h2 => by rw [yrow_ne h2, yrow_ne h1], fun q hq => ⟨by rw [yrow_ne (by decide), yrow_at]; exact hB q hq, by rw [yrow_at]; exact hE q hq⟩⟩, rfl⟩
theorem m_leave0 {S : XS} {M N : YM} {w : Int} (R : Rel M) : rm S 2 145 [yr 75, yi w] M N (fun r M' N' => none = r ∧ ((∀ c, c ≠ 90 → c ≠ 91 → M' c = M c) ∧ ∀ q, in6 q → M' 90 q = lB M w q ∧ M' 91 q = lE M w q) ∧ N = N') := by
  have g1 := R.s.2.1
  refine rm_post (m_leaves (w := w) (by omega) (by omega) R.s.msy) ?_
  rintro _ _ _ ⟨rfl, ⟨B, E, rfl, hB, hE⟩, rfl⟩
  exact ⟨rfl, ⟨fun c h1 h2 => by rw [yrow_ne h2, yrow_ne h1], fun q hq => ⟨by rw [yrow_ne (by decide), yrow_at]; exact hB q hq, by rw [yrow_at]; exact hE q hq⟩⟩, rfl⟩
/-- whether all can be of what is left so; the table -/
noncomputable def xV (M : YM) (B E : Int → Int) : Int := @ite Int (spY B E (M 77) sk0 (M 75 2)) (Classical.propDecidable _) 1 0
noncomputable def xT (M : YM) (B E : Int → Int) : Int → Int → Int := spO B E (M 77) sk0 (M 75 2)
theorem xV_yes {M : YM} {B E : Int → Int} (h : spY B E (M 77) sk0 (M 75 2)) : xV M B E = 1 := if_pos h
theorem xV_no {M : YM} {B E : Int → Int} (h : ¬ spY B E (M 77) sk0 (M 75 2)) : xV M B E = 0 := if_neg h
theorem eqs.eX {M M' : YM} (h : eqs M M') : xV M' = xV M := by
  funext B E
  unfold xV
  rw [h.2.1, h.2.2.2.2]
theorem eqs.eZ {M M' : YM} (h : eqs M M') : xT M' = xT M := by
  funext B E
  unfold xT
  rw [h.2.1, h.2.2.2.2]
theorem xV_congr {M : YM} {B B' E E' : Int → Int} (hB : ∀ q, in6 q → B q = B' q) (hE : ∀ q, in6 q → E q = E' q) : xV M B E = xV M B' E' := by
  unfold xV
  rw [spY_congr hB hE (fun _ _ _ => rfl)]
theorem xT_congr {M : YM} {B B' E E' : Int → Int} (hB : ∀ q, in6 q → B q = B' q) (hE : ∀ q, in6 q → E q = E' q) : xT M B E = xT M B' E' := spO_congr hB hE (fun _ _ _ => rfl)
theorem xV_w {M : YM} (R : Rel M) (h : nV M ≠ 0) (w : Int) : xV M (lB M w) (lE M w) = 1 := xV_yes (nY_w R (nV_one h) w)
/-- cut what is left: class, reference -/
theorem c_cutX {S : XS} {M N : YM} {B E : Int → Int} (R : Rel M) (hb : ∀ q, in6 q → M 34 q = B q ∧ M 35 q = E q ∧ (0 ≤ B q ∧ B q ≤ 1001) ∧ (-2 ≤ E q ∧ E q ≤ 999)) (hT : tied M (M 77) sk0 (M 75 2)) : rm S 1 38 [yr 33] M N (fun r M' N' => ∃ v : Int, some (yi v) = r ∧ (v = xV M B E ∧ (v = 0 ∨ v = 1) ∧ (v = 1 → cAt M' (xT M B E)) ∧ (∀ c, c ≠ 36 → c ≠ 37 → M' c = M c) ∧ Rel M' ∧ eqn M M') ∧ N = N') := by
  refine rm_post (c_cutK hb R.l.ok hT) ?_
  rintro _ M2 _ ⟨v, rfl, ⟨f, hv⟩, rfl⟩
  have e : eqn M M2 := eqn.of fun c hc => f c (by omega) (by omega)
  rcases hv with ⟨a, b, c⟩ | ⟨a, b⟩
  · exact ⟨v, rfl, ⟨by rw [xV_yes b, a], Or.inr a, fun _ => c, f, R.congr e, e⟩, rfl⟩
  · exact ⟨v, rfl, ⟨by rw [xV_no b, a], Or.inl a, fun g => by omega, f, R.congr e, e⟩, rfl⟩
theorem m_cutX {S : XS} {M N : YM} {B E : Int → Int} (R : Rel M) (hb : ∀ q, in6 q → M 90 q = B q ∧ M 91 q = E q ∧ (0 ≤ B q ∧ B q ≤ 1001) ∧ (-2 ≤ E q ∧ E q ≤ 999)) : rm S 1 147 [yr 75, yi 0] M N (fun r M' N' => ∃ v : Int, some (yi v) = r ∧ (v = xV M B E ∧ (v = 0 ∨ v = 1) ∧ (v = 1 → mAt M' (xT M B E)) ∧ (∀ c, c ≠ 92 → M' c = M c) ∧ Rel M' ∧ eqn M M') ∧ N = N') := by
  refine rm_post (m_canBeK (w := 0) hb R.l) ?_
  rintro _ M2 _ ⟨v, rfl, ⟨f, hv⟩, rfl⟩
  have e : eqn M M2 := eqn.of fun c hc => f c (by omega)
  have h8 := R.l.2.1.2
  have hz : ∀ k, 0 ≤ k → k < M 75 2 → bit 0 k = sk0 k := fun k k0 k1 => bit_zero ⟨k0, by omega⟩
  rw [spY_congr (fun _ _ => rfl) (fun _ _ => rfl) hz, spO_congr (fun _ _ => rfl) (fun _ _ => rfl) hz] at hv
  rcases hv with ⟨a, b, c⟩ | ⟨a, b⟩
  · exact ⟨v, rfl, ⟨by rw [xV_yes b, a], Or.inr a, fun _ => c, f, R.congr e, e⟩, rfl⟩
  · exact ⟨v, rfl, ⟨by rw [xV_no b, a], Or.inl a, fun g => by omega, f, R.congr e, e⟩, rfl⟩
theorem c_wid {S : XS} {M N : YM} {t : Int} {O : Int → Int → Int} (R : Rel M) (ht : 0 ≤ t ∧ t < M 75 9) (hA : cAt M O) : rm S 4 99 [yr 0, yr (49 + 3 * t)] M N (fun r M' N' => ∃ v : Int, some (yj v) = r ∧ (v = wid M t O ∧ wFr M M' ∧ Rel M' ∧ eqn M M') ∧ N = N') :=
  rm_post (c_width R ht hA) fun _ _ _ ⟨v, h1, ⟨h2, _, _, h3⟩, h4⟩ => ⟨v, h1, ⟨h2, h3, R.congr h3.eqn, h3.eqn⟩, h4⟩
theorem m_wid {S : XS} {M N : YM} {t : Int} {O : Int → Int → Int} (R : Rel M) (ht : 0 ≤ t ∧ t < M 75 9) (hA : mAt M O) : rm S 6 160 [yr 75, yi t] M N (fun r M' _ => ∃ v : Int, some (yj v) = r ∧ (v = wid M t O ∧ (∀ c, c ≠ 88 → c ≠ 89 → M' c = M c) ∧ Rel M' ∧ eqn M M')) :=
  rm_post (m_width R ht hA) fun _ _ _ ⟨v, h1, h2, h3⟩ => have e := eqn.ofm fun c hc => h3 c (by omega) (by omega); ⟨v, h1, h2, h3, R.congr e, e⟩
noncomputable def fWorth (t s : Int) (M : YM) : Int := if (t < 0 ∨ M 75 9 ≤ t) ∨ (s < 0 ∨ M 75 0 ≤ s) ∨ nV M = 0 then -4611686018427387904 else wid M t (xT M (lB M (bsh s)) (lE M (bsh s))) - wid M t (nT M)
theorem fWorth_eq {t s : Int} {M M' : YM} (e : eqn M M') : fWorth t s M' = fWorth t s M := by
  unfold fWorth
  rw [e.e9, e.eqs.1, e.eqs.eV, e.eqs.eT, e.eqx.eW, e.eqs.eB, e.eqs.eE, e.eqs.eZ]
theorem c_worth {S : XS} {M N : YM} {t s : Int} (hqt : -2147483648 ≤ t ∧ t < 2147483648) (hqs : -2147483648 ≤ s ∧ s < 2147483648) (R : Rel M) : rm S 6 71 [yr 0, yi t, yi s] M N (fun r M' _ => ∃ v : Int, some (yj v) = r ∧ v = fWorth t s M ∧ eqn M M') := by
  refine ⟨xe_71, m_71, Nat.le_of_ble_eq_true rfl, ?_⟩
  refine r_run 2 (pc' := 2) (ls' := [some (yr 0), some (yi t), some (yi s), none, none]) (st' := [yi t, yr 0]) (M' := M) (N' := N) rfl ?_
  refine r_virtual (mj := 94) (b := 0) (as := [yi t]) (rest := []) f_71_2 (by decide) rfl m_94 (by decide) (by decide) (by decide) rfl rfl (Nat.le_of_ble_eq_true rfl) (by omega) (c_isText (by assumption) (by have := R.t.1; have := R.t.2.1; omega)) ?_
  rintro _ _ _ ⟨vt, rfl, hvt, rfl, rfl⟩
  have e5 := R.t.1
  have e59 := R.t.2.1
  refine r_if_eq (pc := 5) f_71_5 (by omega) (fun h5 => ?_) (fun h5 => ?_)
  · refine r_run 1 (pc' := 26) (ls' := [some (yr 0), some (yi t), some (yi s), none, none]) (st' := [yj (-4611686018427387904)]) (M' := M) (N' := N) rfl ?_
    refine r_lret m_71 rfl f_71_26 ?_
    exact ⟨_, rfl, by unfold fWorth; rw [if_pos (by omega)], eqn.refl⟩
  · refine r_run 2 (pc' := 10) (ls' := [some (yr 0), some (yi t), some (yi s), none, none]) (st' := [yi s, yr 0]) (M' := M) (N' := N) rfl ?_
    refine r_virtual (mj := 95) (b := 0) (as := [yi s]) (rest := []) f_71_10 (by decide) rfl m_95 (by decide) (by decide) (by decide) rfl rfl (Nat.le_of_ble_eq_true rfl) (by omega) (c_isSaying (by assumption) (by have := R.s.1; have := R.s.2.1; omega)) ?_
    rintro _ _ _ ⟨vs, rfl, hvs, rfl, rfl⟩
    have e11 := R.s.1
    have e70 := R.s.2.1
    refine r_if_eq (pc := 13) f_71_13 (by omega) (fun h13 => ?_) (fun h13 => ?_)
    · refine r_run 1 (pc' := 26) (ls' := [some (yr 0), some (yi t), some (yi s), none, none]) (st' := [yj (-4611686018427387904)]) (M' := M) (N' := N) rfl ?_
      refine r_lret m_71 rfl f_71_26 ?_
      exact ⟨_, rfl, by unfold fWorth; rw [if_pos (by omega)], eqn.refl⟩
    · refine r_run 1 (pc' := 17) (ls' := [some (yr 0), some (yi t), some (yi s), none, none]) (st' := [yr 0]) (M' := M) (N' := N) rfl ?_
      refine r_virtual (mj := 97) (b := 0) (as := []) (rest := []) f_71_17 (by decide) rfl m_97 (by decide) (by decide) (by decide) rfl rfl (Nat.le_of_ble_eq_true rfl) (by omega) (c_can1 R) ?_
      rintro _ M2 _ ⟨v, rfl, ⟨hv, hv01, hat, hBE, hfr, R2, hq, hT⟩, rfl⟩
      refine r_if_ne (pc := 20) f_71_20 (by omega) (fun h20 => ?_) (fun h20 => ?_)
      · refine r_run 4 (pc' := 33) (ls' := [some (yr 0), some (yi t), some (yi s), none, none]) (st' := [yi t, yr 26, yr 0]) (M' := M2) (N' := N) rfl ?_
        refine r_aald (r := 49 + 3 * t) (kd := 105) (n := 6) f_71_33 (by decide) (by decide) (by decide) (by decide) (by omega) (rf_text (by omega)) ?_
        refine r_virtual (mj := 99) (b := 0) (as := [yr (49 + 3 * t)]) (rest := []) f_71_34 (by decide) rfl m_99 (by decide) (by decide) (by decide) rfl rfl (Nat.le_of_ble_eq_true rfl) (by omega) (c_wid R2 (by rw [hq.e9]; omega) (hat (by omega))) ?_
        rintro _ M3 _ ⟨vw, rfl, ⟨w1, W3, R3, e3⟩, rfl⟩
        rw [hq.eqx.eW] at w1
        have q3 := hq.trans e3
        have T3 : tied M3 (M3 77) sk0 (M3 75 2) := by
          rw [q3.eqs.2.2.2.2, q3.eqs.2.1]
          exact hT.fr (W3.1 38 (by decide) (by decide) (by decide)) (by rw [W3.1 33 (by decide) (by decide) (by decide)])
        refine r_run 5 (pc' := 42) (ls' := [some (yr 0), some (yi t), some (yi s), some (yj vw), none]) (st' := [yi ((Int32.ofInt 1 <<< (Int32.ofInt s &&& 31)).toInt), yr 0]) (M' := M3) (N' := N) rfl ?_
        refine r_virtual (mj := 98) (b := 0) (as := [yi ((Int32.ofInt 1 <<< (Int32.ofInt s &&& 31)).toInt)]) (rest := []) f_71_42 (by decide) rfl m_98 (by decide) (by decide) (by decide) rfl rfl (Nat.le_of_ble_eq_true rfl) (by omega) (c_canW (w := bsh s) (sk := sk0) R3.s R3.l T3) ?_
        rintro _ M4 _ ⟨v4, rfl, ⟨f4, -, hv4⟩, rfl⟩
        have e4 : eqn M3 M4 := eqn.of fun c hc => f4 c (by omega)
        have q4 := q3.trans e4
        have R4 := R.congr q4
        have g4 : v4 = 1 ∧ cAt M4 (xT M (lB M (bsh s)) (lE M (bsh s))) := by
          rcases hv4 with ⟨h1, -, h2⟩ | ⟨-, h2⟩
          · refine ⟨h1, ?_⟩
            rw [q3.eqs.eB, q3.eqs.eE, q3.eqs.2.2.2.2, q3.eqs.2.1] at h2
            exact h2
          · rw [q3.eqs.eB, q3.eqs.eE, q3.eqs.2.2.2.2, q3.eqs.2.1] at h2
            exact absurd (nY_w R (nV_one (by omega)) _) h2
        refine r_if_eq (pc := 45) f_71_45 (by omega) (fun h45 => ?_) (fun h45 => ?_)
        · exfalso; omega
        · refine r_run 4 (pc' := 54) (ls' := [some (yr 0), some (yi t), some (yi s), some (yj vw), none]) (st' := [yi t, yr 26, yr 0]) (M' := M4) (N' := N) rfl ?_
          refine r_aald (r := 49 + 3 * t) (kd := 105) (n := 6) f_71_54 (by decide) (by decide) (by decide) (by decide) (by omega) (rf_text (by omega)) ?_
          refine r_virtual (mj := 99) (b := 0) (as := [yr (49 + 3 * t)]) (rest := []) f_71_55 (by decide) rfl m_99 (by decide) (by decide) (by decide) rfl rfl (Nat.le_of_ble_eq_true rfl) (by omega) (c_wid R4 (by rw [q4.e9]; omega) g4.2) ?_
          rintro _ M5 _ ⟨vx, rfl, ⟨w5, W5, R5, e5'⟩, rfl⟩
          rw [q4.eqx.eW] at w5
          refine r_run 3 (pc' := 66) (ls' := [some (yr 0), some (yi t), some (yi s), some (yj vw), none]) (st' := [yj (vx - vw)]) (M' := M5) (N' := N) rfl ?_
          refine r_lret m_71 rfl f_71_66 ?_
          exact ⟨_, rfl, by unfold fWorth; rw [if_neg (by omega), w1, w5], q4.trans e5'⟩
      · refine r_run 1 (pc' := 26) (ls' := [some (yr 0), some (yi t), some (yi s), none, none]) (st' := [yj (-4611686018427387904)]) (M' := M2) (N' := N) rfl ?_
        refine r_lret m_71 rfl f_71_26 ?_
        exact ⟨_, rfl, by unfold fWorth; rw [if_pos (by omega)], hq⟩
theorem m_worth {S : XS} {M N : YM} {t s : Int} (hqt : -2147483648 ≤ t ∧ t < 2147483648) (hqs : -2147483648 ≤ s ∧ s < 2147483648) (R : Rel M) : rm S 7 168 [yr 75, yi t, yi s] M N (fun r M' _ => ∃ v : Int, some (yj v) = r ∧ v = fWorth t s M ∧ eqn M M') := by
  refine ⟨xe_168, m_168, Nat.le_of_ble_eq_true rfl, ?_⟩
  refine r_run 2 (pc' := 2) (ls' := [some (yr 75), some (yi t), some (yi s), none, none]) (st' := [yi t, yr 75]) (M' := M) (N' := N) rfl ?_
  refine r_virtual (mj := 116) (b := 75) (as := [yi t]) (rest := []) f_168_2 (by decide) rfl m_116 (by decide) (by decide) (by decide) rfl rfl (Nat.le_of_ble_eq_true rfl) (by omega) (m_isOfTexts (by assumption) (by have := R.t.2.1; omega)) ?_
  rintro _ _ _ ⟨vt, rfl, hvt, rfl, rfl⟩
  have e59 := R.t.2.1
  refine r_if_eq (pc := 5) f_168_5 (by omega) (fun h5 => ?_) (fun h5 => ?_)
  · refine r_run 1 (pc' := 26) (ls' := [some (yr 75), some (yi t), some (yi s), none, none]) (st' := [yj (-4611686018427387904)]) (M' := M) (N' := N) rfl ?_
    refine r_lret m_168 rfl f_168_26 ?_
    exact ⟨_, rfl, by unfold fWorth; rw [if_pos (by omega)], eqn.refl⟩
  · refine r_run 2 (pc' := 10) (ls' := [some (yr 75), some (yi t), some (yi s), none, none]) (st' := [yi s, yr 75]) (M' := M) (N' := N) rfl ?_
    refine r_virtual (mj := 114) (b := 75) (as := [yi s]) (rest := []) f_168_10 (by decide) rfl m_114 (by decide) (by decide) (by decide) rfl rfl (Nat.le_of_ble_eq_true rfl) (by omega) (m_isSaying (by assumption) (by have := R.s.2.1; omega)) ?_
    rintro _ _ _ ⟨vs, rfl, hvs, rfl, rfl⟩
    have e70 := R.s.2.1
    refine r_if_eq (pc := 13) f_168_13 (by omega) (fun h13 => ?_) (fun h13 => ?_)
    · refine r_run 1 (pc' := 26) (ls' := [some (yr 75), some (yi t), some (yi s), none, none]) (st' := [yj (-4611686018427387904)]) (M' := M) (N' := N) rfl ?_
      refine r_lret m_168 rfl f_168_26 ?_
      exact ⟨_, rfl, by unfold fWorth; rw [if_pos (by omega)], eqn.refl⟩
    · refine r_run 1 (pc' := 17) (ls' := [some (yr 75), some (yi t), some (yi s), none, none]) (st' := [yr 75]) (M' := M) (N' := N) rfl ?_
      refine r_virtual (mj := 148) (b := 75) (as := []) (rest := []) f_168_17 (by decide) rfl m_148 (by decide) (by decide) (by decide) rfl rfl (Nat.le_of_ble_eq_true rfl) (by omega) (m_can1 R) ?_
      rintro _ M2 _ ⟨v, rfl, ⟨hv, hv01, hat, hBE, hfr, R2, hq⟩, rfl⟩
      refine r_if_ne (pc := 20) f_168_20 (by omega) (fun h20 => ?_) (fun h20 => ?_)
      · refine r_run 2 (pc' := 29) (ls' := [some (yr 75), some (yi t), some (yi s), none, none]) (st' := [yi t, yr 75]) (M' := M2) (N' := N) rfl ?_
        refine r_virtual (mj := 160) (b := 75) (as := [yi t]) (rest := []) f_168_29 (by decide) rfl m_160 (by decide) (by decide) (by decide) rfl rfl (Nat.le_of_ble_eq_true rfl) (by omega) (m_wid R2 (by rw [hq.e9]; omega) (hat (by omega))) ?_
        rintro _ M3 N3 ⟨vw, rfl, ⟨w1, W3, R3, e3⟩⟩
        rw [hq.eqx.eW] at w1
        have q3 := hq.trans e3
        refine r_run 5 (pc' := 37) (ls' := [some (yr 75), some (yi t), some (yi s), some (yj vw), none]) (st' := [yi ((Int32.ofInt 1 <<< (Int32.ofInt s &&& 31)).toInt), yr 75]) (M' := M3) (N' := N3) rfl ?_
        refine r_virtual (mj := 145) (b := 75) (as := [yi ((Int32.ofInt 1 <<< (Int32.ofInt s &&& 31)).toInt)]) (rest := []) f_168_37 (by decide) rfl m_145 (by decide) (by decide) (by decide) rfl rfl (Nat.le_of_ble_eq_true rfl) (by omega) (m_leave0 (w := bsh s) R3) ?_
        rintro _ M4 _ ⟨rfl, ⟨f4, b4⟩, rfl⟩
        have e4 : eqn M3 M4 := eqn.of fun c hc => f4 c (by omega) (by omega)
        have q4 := q3.trans e4
        have R4 := R.congr q4
        rw [q3.eqs.eB, q3.eqs.eE] at b4
        refine r_run 2 (pc' := 42) (ls' := [some (yr 75), some (yi t), some (yi s), some (yj vw), none]) (st' := [yi 0, yr 75]) (M' := M4) (N' := N3) rfl ?_
        refine r_virtual (mj := 147) (b := 75) (as := [yi 0]) (rest := []) f_168_42 (by decide) rfl m_147 (by decide) (by decide) (by decide) rfl rfl (Nat.le_of_ble_eq_true rfl) (by omega) (m_cutX (B := lB M (bsh s)) (E := lE M (bsh s)) R4 (fun q hq => ⟨(b4 q hq).1, (b4 q hq).2, by have := lB_in R.s (bsh s) q hq; omega, by have := lE_in R.s (bsh s) q hq; omega⟩)) ?_
        rintro _ M5 _ ⟨v5, rfl, ⟨hv5, -, a5, f5, R5, e5⟩, rfl⟩
        rw [q4.eqs.eX, xV_w R (by omega)] at hv5
        have a5 := a5 hv5
        rw [q4.eqs.eZ] at a5
        have q5 := q4.trans e5
        refine r_run 3 (pc' := 48) (ls' := [some (yr 75), some (yi t), some (yi s), some (yj vw), none]) (st' := [yi t, yr 75]) (M' := M5) (N' := N3) rfl ?_
        refine r_virtual (mj := 160) (b := 75) (as := [yi t]) (rest := []) f_168_48 (by decide) rfl m_160 (by decide) (by decide) (by decide) rfl rfl (Nat.le_of_ble_eq_true rfl) (by omega) (m_wid R5 (by rw [q5.e9]; omega) a5) ?_
        rintro _ M6 N6 ⟨vx, rfl, ⟨w6, W6, R6, e6⟩⟩
        rw [q5.eqx.eW] at w6
        refine r_run 2 (pc' := 53) (ls' := [some (yr 75), some (yi t), some (yi s), some (yj vw), none]) (st' := [yj (vx - vw)]) (M' := M6) (N' := N6) rfl ?_
        refine r_lret m_168 rfl f_168_53 ?_
        exact ⟨_, rfl, by unfold fWorth; rw [if_neg (by omega), w1, w6], q5.trans e6⟩
      · refine r_run 1 (pc' := 26) (ls' := [some (yr 75), some (yi t), some (yi s), none, none]) (st' := [yj (-4611686018427387904)]) (M' := M2) (N' := N) rfl ?_
        refine r_lret m_168 rfl f_168_26 ?_
        exact ⟨_, rfl, by unfold fWorth; rw [if_pos (by omega)], hq⟩
theorem p_worth {S : XS} {M N : YM} {t s : Int} (hqt : -2147483648 ≤ t ∧ t < 2147483648) (hqs : -2147483648 ≤ s ∧ s < 2147483648) (R : Rel M) : prl S 71 168 [yi t, yi s] M N := prl_q (fWorth t s) (rm_deep (by decide) (c_worth hqt hqs R)) (fun M N R => rm_deep (by decide) (m_worth hqt hqs R)) (fun M' _ e => fWorth_eq e) R
noncomputable def fExact (t q w : Int) (M : YM) : Int := if (t < 0 ∨ M 75 9 ≤ t) ∨ (q < 0 ∨ 5 < q) ∨ (w < 0 ∨ 999 < w) ∨ xV M (up (lB M 0) q w) (up (lE M 0) q w) = 0 then -4611686018427387904 else wid M t (xT M (up (lB M 0) q w) (up (lE M 0) q w))
theorem fExact_eq {t q w : Int} {M M' : YM} (e : eqn M M') : fExact t q w M' = fExact t q w M := by
  unfold fExact
  rw [e.e9, e.eqs.eX, e.eqx.eW, e.eqs.eB, e.eqs.eE, e.eqs.eZ]
theorem up_in {B : Int → Int} {q w : Int} (h : ∀ q, in6 q → in9 (B q)) (hw : in9 w) : ∀ x, in6 x → in9 (up B q w x) := fun x hx => by
  have := h x hx
  unfold up
  split <;> omega
theorem c_exact {S : XS} {M N : YM} {t q w : Int} (hqt : -2147483648 ≤ t ∧ t < 2147483648) (hqq : -2147483648 ≤ q ∧ q < 2147483648) (hqw : -2147483648 ≤ w ∧ w < 2147483648) (R : Rel M) : rm S 6 72 [yr 0, yi t, yi q, yi w] M N (fun r M' _ => ∃ v : Int, some (yj v) = r ∧ v = fExact t q w M ∧ eqn M M') := by
  refine ⟨xe_72, m_72, Nat.le_of_ble_eq_true rfl, ?_⟩
  refine r_run 2 (pc' := 2) (ls' := [some (yr 0), some (yi t), some (yi q), some (yi w)]) (st' := [yi t, yr 0]) (M' := M) (N' := N) rfl ?_
  refine r_virtual (mj := 94) (b := 0) (as := [yi t]) (rest := []) f_72_2 (by decide) rfl m_94 (by decide) (by decide) (by decide) rfl rfl (Nat.le_of_ble_eq_true rfl) (by omega) (c_isText (by assumption) (by have := R.t.1; have := R.t.2.1; omega)) ?_
  rintro _ _ _ ⟨vt, rfl, hvt, rfl, rfl⟩
  have e5 := R.t.1
  have e59 := R.t.2.1
  refine r_if_eq (pc := 5) f_72_5 (by omega) (fun h5 => ?_) (fun h5 => ?_)
  · refine r_run 1 (pc' := 29) (ls' := [some (yr 0), some (yi t), some (yi q), some (yi w)]) (st' := [yj (-4611686018427387904)]) (M' := M) (N' := N) rfl ?_
    refine r_lret m_72 rfl f_72_29 ?_
    exact ⟨_, rfl, by unfold fExact; rw [if_pos (by omega)], eqn.refl⟩
  · refine r_run 1 (pc' := 9) (ls' := [some (yr 0), some (yi t), some (yi q), some (yi w)]) (st' := [yi q]) (M' := M) (N' := N) rfl ?_
    refine r_static (mj := 92) (as := [yi q]) (rest := []) f_72_9 (by decide) rfl m_92 rfl rfl rfl (Nat.le_of_ble_eq_true rfl) (by omega) (c_isQ (by omega)) ?_
    rintro _ _ _ ⟨v9, rfl, hv9, rfl, rfl⟩
    refine r_if_eq (pc := 12) f_72_12 (by omega) (fun h12 => ?_) (fun h12 => ?_)
    · refine r_run 1 (pc' := 29) (ls' := [some (yr 0), some (yi t), some (yi q), some (yi w)]) (st' := [yj (-4611686018427387904)]) (M' := M) (N' := N) rfl ?_
      refine r_lret m_72 rfl f_72_29 ?_
      exact ⟨_, rfl, by unfold fExact; rw [if_pos (by omega)], eqn.refl⟩
    · refine r_run 3 (pc' := 20) (ls' := [some (yr 0), some (yi t), some (yi q), some (yi w)]) (st' := [yi 999, yi 0, yi w]) (M' := M) (N' := N) rfl ?_
      refine r_static (mj := 90) (as := [yi w, yi 0, yi 999]) (rest := []) f_72_20 (by decide) rfl m_90 rfl rfl rfl (Nat.le_of_ble_eq_true rfl) (by omega) (c_within (by omega) (by omega) (by omega)) ?_
      rintro _ _ _ ⟨v20, rfl, hv20, rfl, rfl⟩
      refine r_if_ne (pc := 23) f_72_23 (by omega) (fun h23 => ?_) (fun h23 => ?_)
      · refine r_run 8 (pc' := 46) (ls' := [some (yr 0), some (yi t), some (yi q), some (yi w)]) (st' := [yi (-1), yi (M 1 2), yr 25, yr 33]) (M' := M) (N' := N) rfl ?_
        refine r_virtual (mj := 35) (b := 33) (as := [yr 25, yi (M 1 2), yi (-1)]) (rest := []) f_72_46 (by decide) rfl m_35 (by decide) (by decide) (by decide) rfl rfl (Nat.le_of_ble_eq_true rfl) (by omega) (c_tieN R) ?_
        rintro _ M2 _ ⟨rfl, ⟨f2, T2⟩, rfl⟩
        have q2 : eqn M M2 := eqn.of fun c hc => f2 c (by omega) (by omega)
        have R2 := R.congr q2
        refine r_run 5 (pc' := 58) (ls' := [some (yr 0), some (yi t), some (yi q), some (yi w)]) (st' := [yi 0, yr 1, yr 33]) (M' := M2) (N' := N) rfl ?_
        refine r_virtual (mj := 34) (b := 33) (as := [yr 1, yi 0]) (rest := []) f_72_58 (by decide) rfl m_34 (by decide) (by decide) (by decide) rfl rfl (Nat.le_of_ble_eq_true rfl) (by omega) (c_leave0 (w := 0) R2) ?_
        rintro _ M3 _ ⟨rfl, ⟨f3, b3⟩, rfl⟩
        rw [q2.eqs.eB, q2.eqs.eE] at b3
        refine r_run 5 (pc' := 70) (ls' := [some (yr 0), some (yi t), some (yi q), some (yi w)]) (st' := [yi w, yi q, yr 34]) (M' := M3) (N' := N) rfl ?_
        refine r_iast (n := 6) f_72_70 (by decide) (by decide) (by decide) (by omega) ?_
        refine r_run 5 (pc' := 80) (ls' := [some (yr 0), some (yi t), some (yi q), some (yi w)]) (st' := [yi w, yi q, yr 35]) (M' := (yu M3 34 q w)) (N' := N) rfl ?_
        refine r_iast (n := 6) f_72_80 (by decide) (by decide) (by decide) (by omega) ?_
        refine r_run 2 (pc' := 85) (ls' := [some (yr 0), some (yi t), some (yi q), some (yi w)]) (st' := [yr 33]) (M' := (yu (yu M3 34 q w) 35 q w)) (N' := N) rfl ?_
        have q5 : eqn M (yu (yu M3 34 q w) 35 q w) := eqn.of fun c hc => by rw [yu_rn (by omega), yu_rn (by omega), f3 c (by omega) (by omega), f2 c (by omega) (by omega)]
        have R5 := R.congr q5
        have b5 : ∀ x, in6 x → (yu (yu M3 34 q w) 35 q w) 34 x = up (lB M 0) q w x ∧ (yu (yu M3 34 q w) 35 q w) 35 x = up (lE M 0) q w x ∧ (0 ≤ up (lB M 0) q w x ∧ up (lB M 0) q w x ≤ 1001) ∧ (-2 ≤ up (lE M 0) q w x ∧ up (lE M 0) q w x ≤ 999) := fun x hx => by
          have i1 := up_in (lB_in R.s 0) (q := q) (w := w) ⟨by omega, by omega⟩ x hx
          have i2 := up_in (lE_in R.s 0) (q := q) (w := w) ⟨by omega, by omega⟩ x hx
          refine ⟨?_, ?_, by omega, by omega⟩
          · rw [yu_rn (by decide), yu_row, yrow_at]
            unfold up
            rw [(b3 x hx).1]
          · rw [yu_row, yrow_at, yu_rn (by decide)]
            unfold up
            rw [(b3 x hx).2]
        have T5 : tied (yu (yu M3 34 q w) 35 q w) ((yu (yu M3 34 q w) 35 q w) 77) sk0 ((yu (yu M3 34 q w) 35 q w) 75 2) := by
          rw [q5.eqs.2.2.2.2, q5.eqs.2.1]
          exact T2.fr (by rw [yu_rn (by decide), yu_rn (by decide), f3 38 (by decide) (by decide)]) (by rw [yu_rn (by decide), yu_rn (by decide), f3 33 (by decide) (by decide)])
        refine r_virtual (mj := 38) (b := 33) (as := []) (rest := []) f_72_85 (by decide) rfl m_38 (by decide) (by decide) (by decide) rfl rfl (Nat.le_of_ble_eq_true rfl) (by omega) (c_cutX (B := up (lB M 0) q w) (E := up (lE M 0) q w) R5 b5 T5) ?_
        rintro _ M6 _ ⟨v6, rfl, ⟨hv6, v01, a6, f6, R6, e6⟩, rfl⟩
        have q6 := q5.trans e6
        rw [q5.eqs.eX] at hv6
        rw [q5.eqs.eZ] at a6
        refine r_if_eq (pc := 88) f_72_88 (by omega) (fun h88 => ?_) (fun h88 => ?_)
        · refine r_run 1 (pc' := 107) (ls' := [some (yr 0), some (yi t), some (yi q), some (yi w)]) (st' := [yj (-4611686018427387904)]) (M' := M6) (N' := N) rfl ?_
          refine r_lret m_72 rfl f_72_107 ?_
          exact ⟨_, rfl, by unfold fExact; rw [if_pos (by omega)], q6⟩
        · refine r_run 4 (pc' := 97) (ls' := [some (yr 0), some (yi t), some (yi q), some (yi w)]) (st' := [yi t, yr 26, yr 0]) (M' := M6) (N' := N) rfl ?_
          refine r_aald (r := 49 + 3 * t) (kd := 105) (n := 6) f_72_97 (by decide) (by decide) (by decide) (by decide) (by omega) (rf_text (by omega)) ?_
          refine r_virtual (mj := 99) (b := 0) (as := [yr (49 + 3 * t)]) (rest := []) f_72_98 (by decide) rfl m_99 (by decide) (by decide) (by decide) rfl rfl (Nat.le_of_ble_eq_true rfl) (by omega) (c_wid R6 (by rw [q6.e9]; omega) (a6 (by omega))) ?_
          rintro _ M7 _ ⟨vw, rfl, ⟨w7, W7, R7, e7⟩, rfl⟩
          rw [q6.eqx.eW] at w7
          refine r_run 1 (pc' := 107) (ls' := [some (yr 0), some (yi t), some (yi q), some (yi w)]) (st' := [yj vw]) (M' := M7) (N' := N) rfl ?_
          refine r_lret m_72 rfl f_72_107 ?_
          exact ⟨_, rfl, by unfold fExact; rw [if_neg (by omega), w7], q6.trans e7⟩
      · refine r_run 1 (pc' := 29) (ls' := [some (yr 0), some (yi t), some (yi q), some (yi w)]) (st' := [yj (-4611686018427387904)]) (M' := M) (N' := N) rfl ?_
        refine r_lret m_72 rfl f_72_29 ?_
        exact ⟨_, rfl, by unfold fExact; rw [if_pos (by omega)], eqn.refl⟩
theorem m_exact {S : XS} {M N : YM} {t q w : Int} (hqt : -2147483648 ≤ t ∧ t < 2147483648) (hqq : -2147483648 ≤ q ∧ q < 2147483648) (hqw : -2147483648 ≤ w ∧ w < 2147483648) (R : Rel M) : rm S 7 169 [yr 75, yi t, yi q, yi w] M N (fun r M' _ => ∃ v : Int, some (yj v) = r ∧ v = fExact t q w M ∧ eqn M M') := by
  refine ⟨xe_169, m_169, Nat.le_of_ble_eq_true rfl, ?_⟩
  refine r_run 2 (pc' := 2) (ls' := [some (yr 75), some (yi t), some (yi q), some (yi w)]) (st' := [yi t, yr 75]) (M' := M) (N' := N) rfl ?_
  refine r_virtual (mj := 116) (b := 75) (as := [yi t]) (rest := []) f_169_2 (by decide) rfl m_116 (by decide) (by decide) (by decide) rfl rfl (Nat.le_of_ble_eq_true rfl) (by omega) (m_isOfTexts (by assumption) (by have := R.t.2.1; omega)) ?_
  rintro _ _ _ ⟨vt, rfl, hvt, rfl, rfl⟩
  have e59 := R.t.2.1
  refine r_if_eq (pc := 5) f_169_5 (by omega) (fun h5 => ?_) (fun h5 => ?_)
  · refine r_run 1 (pc' := 29) (ls' := [some (yr 75), some (yi t), some (yi q), some (yi w)]) (st' := [yj (-4611686018427387904)]) (M' := M) (N' := N) rfl ?_
    refine r_lret m_169 rfl f_169_29 ?_
    exact ⟨_, rfl, by unfold fExact; rw [if_pos (by omega)], eqn.refl⟩
  · refine r_run 1 (pc' := 9) (ls' := [some (yr 75), some (yi t), some (yi q), some (yi w)]) (st' := [yi q]) (M' := M) (N' := N) rfl ?_
    refine r_static (mj := 115) (as := [yi q]) (rest := []) f_169_9 (by decide) rfl m_115 rfl rfl rfl (Nat.le_of_ble_eq_true rfl) (by omega) (m_isOne (by omega)) ?_
    rintro _ _ _ ⟨v9, rfl, hv9, rfl, rfl⟩
    refine r_if_eq (pc := 12) f_169_12 (by omega) (fun h12 => ?_) (fun h12 => ?_)
    · refine r_run 1 (pc' := 29) (ls' := [some (yr 75), some (yi t), some (yi q), some (yi w)]) (st' := [yj (-4611686018427387904)]) (M' := M) (N' := N) rfl ?_
      refine r_lret m_169 rfl f_169_29 ?_
      exact ⟨_, rfl, by unfold fExact; rw [if_pos (by omega)], eqn.refl⟩
    · refine r_run 3 (pc' := 20) (ls' := [some (yr 75), some (yi t), some (yi q), some (yi w)]) (st' := [yi 999, yi 0, yi w]) (M' := M) (N' := N) rfl ?_
      refine r_static (mj := 112) (as := [yi w, yi 0, yi 999]) (rest := []) f_169_20 (by decide) rfl m_112 rfl rfl rfl (Nat.le_of_ble_eq_true rfl) (by omega) (m_in (by omega) (by omega) (by omega)) ?_
      rintro _ _ _ ⟨v20, rfl, hv20, rfl, rfl⟩
      refine r_if_ne (pc := 23) f_169_23 (by omega) (fun h23 => ?_) (fun h23 => ?_)
      · refine r_run 2 (pc' := 32) (ls' := [some (yr 75), some (yi t), some (yi q), some (yi w)]) (st' := [yi 0, yr 75]) (M' := M) (N' := N) rfl ?_
        refine r_virtual (mj := 145) (b := 75) (as := [yi 0]) (rest := []) f_169_32 (by decide) rfl m_145 (by decide) (by decide) (by decide) rfl rfl (Nat.le_of_ble_eq_true rfl) (by omega) (m_leave0 (w := 0) R) ?_
        rintro _ M3 _ ⟨rfl, ⟨f3, b3⟩, rfl⟩
        refine r_run 4 (pc' := 41) (ls' := [some (yr 75), some (yi t), some (yi q), some (yi w)]) (st' := [yi w, yi q, yr 90]) (M' := M3) (N' := N) rfl ?_
        refine r_iast (n := 6) f_169_41 (by decide) (by decide) (by decide) (by omega) ?_
        refine r_run 4 (pc' := 48) (ls' := [some (yr 75), some (yi t), some (yi q), some (yi w)]) (st' := [yi w, yi q, yr 91]) (M' := (yu M3 90 q w)) (N' := N) rfl ?_
        refine r_iast (n := 6) f_169_48 (by decide) (by decide) (by decide) (by omega) ?_
        refine r_run 2 (pc' := 51) (ls' := [some (yr 75), some (yi t), some (yi q), some (yi w)]) (st' := [yi 0, yr 75]) (M' := (yu (yu M3 90 q w) 91 q w)) (N' := N) rfl ?_
        have q5 : eqn M (yu (yu M3 90 q w) 91 q w) := eqn.of fun c hc => by rw [yu_rn (by omega), yu_rn (by omega), f3 c (by omega) (by omega)]
        have R5 := R.congr q5
        have b5 : ∀ x, in6 x → (yu (yu M3 90 q w) 91 q w) 90 x = up (lB M 0) q w x ∧ (yu (yu M3 90 q w) 91 q w) 91 x = up (lE M 0) q w x ∧ (0 ≤ up (lB M 0) q w x ∧ up (lB M 0) q w x ≤ 1001) ∧ (-2 ≤ up (lE M 0) q w x ∧ up (lE M 0) q w x ≤ 999) := fun x hx => by
          have i1 := up_in (lB_in R.s 0) (q := q) (w := w) ⟨by omega, by omega⟩ x hx
          have i2 := up_in (lE_in R.s 0) (q := q) (w := w) ⟨by omega, by omega⟩ x hx
          refine ⟨?_, ?_, by omega, by omega⟩
          · rw [yu_rn (by decide), yu_row, yrow_at]
            unfold up
            rw [(b3 x hx).1]
          · rw [yu_row, yrow_at, yu_rn (by decide)]
            unfold up
            rw [(b3 x hx).2]
        refine r_virtual (mj := 147) (b := 75) (as := [yi 0]) (rest := []) f_169_51 (by decide) rfl m_147 (by decide) (by decide) (by decide) rfl rfl (Nat.le_of_ble_eq_true rfl) (by omega) (m_cutX (B := up (lB M 0) q w) (E := up (lE M 0) q w) R5 b5) ?_
        rintro _ M6 _ ⟨v6, rfl, ⟨hv6, v01, a6, f6, R6, e6⟩, rfl⟩
        have q6 := q5.trans e6
        rw [q5.eqs.eX] at hv6
        rw [q5.eqs.eZ] at a6
        refine r_if_eq (pc := 54) f_169_54 (by omega) (fun h54 => ?_) (fun h54 => ?_)
        · refine r_run 1 (pc' := 68) (ls' := [some (yr 75), some (yi t), some (yi q), some (yi w)]) (st' := [yj (-4611686018427387904)]) (M' := M6) (N' := N) rfl ?_
          refine r_lret m_169 rfl f_169_68 ?_
          exact ⟨_, rfl, by unfold fExact; rw [if_pos (by omega)], q6⟩
        · refine r_run 2 (pc' := 59) (ls' := [some (yr 75), some (yi t), some (yi q), some (yi w)]) (st' := [yi t, yr 75]) (M' := M6) (N' := N) rfl ?_
          refine r_virtual (mj := 160) (b := 75) (as := [yi t]) (rest := []) f_169_59 (by decide) rfl m_160 (by decide) (by decide) (by decide) rfl rfl (Nat.le_of_ble_eq_true rfl) (by omega) (m_wid R6 (by rw [q6.e9]; omega) (a6 (by omega))) ?_
          rintro _ M7 N7 ⟨vw, rfl, ⟨w7, W7, R7, e7⟩⟩
          rw [q6.eqx.eW] at w7
          refine r_run 1 (pc' := 68) (ls' := [some (yr 75), some (yi t), some (yi q), some (yi w)]) (st' := [yj vw]) (M' := M7) (N' := N7) rfl ?_
          refine r_lret m_169 rfl f_169_68 ?_
          exact ⟨_, rfl, by unfold fExact; rw [if_neg (by omega), w7], q6.trans e7⟩
      · refine r_run 1 (pc' := 29) (ls' := [some (yr 75), some (yi t), some (yi q), some (yi w)]) (st' := [yj (-4611686018427387904)]) (M' := M) (N' := N) rfl ?_
        refine r_lret m_169 rfl f_169_29 ?_
        exact ⟨_, rfl, by unfold fExact; rw [if_pos (by omega)], eqn.refl⟩
theorem p_exact {S : XS} {M N : YM} {t q w : Int} (hqt : -2147483648 ≤ t ∧ t < 2147483648) (hqq : -2147483648 ≤ q ∧ q < 2147483648) (hqw : -2147483648 ≤ w ∧ w < 2147483648) (R : Rel M) : prl S 72 169 [yi t, yi q, yi w] M N := prl_q (fExact t q w) (rm_deep (by decide) (c_exact hqt hqq hqw R)) (fun M N R => rm_deep (by decide) (m_exact hqt hqq hqw R)) (fun M' _ e => fExact_eq e) R
