theorem eqn.ofm {M M' : YM} (h : ∀ c, c < 87 → M' c = M c) : eqn M M' := eqn.of fun c hc => h c (by omega)
theorem mAt.lh {M : YM} {O : Int → Int → Int} (h : mAt M O) {q : Int} (hq : in6 q) : M 92 (7 * q + 6) = O q 6 ∧ M 92 (42 + q) = O 6 q ∧ 0 ≤ -O q 6 ∧ -O q 6 ≤ O 6 q ∧ O 6 q ≤ 999 := by
  have a1 := h.1 q 6 (by omega) (by omega) (by omega) (by omega)
  have a2 := h.1 6 q (by omega) (by omega) (by omega) (by omega)
  rw [show 7 * 6 + q = 42 + q by omega] at a2
  exact ⟨a1, a2, h.2.1 q hq⟩
theorem m_reck_in {S : XS} {d : Nat} {t w : Int} {O : Int → Int → Int} {N : YM} {Q : Option YV → YM → YM → Prop} (hd : 1 ≤ d) {j : Nat} : ∀ {q : Int} {M : YM}, 0 ≤ q → q + j = 6 → mAt M O → (∀ M', (∀ c, c ≠ 89 → M' c = M c) → (∀ i, 0 ≤ i → i < q → M' 89 i = M 89 i) → (∀ i, q ≤ i → i < 6 → M' 89 i = corner O w i) → ry S d 159 49 [some (yr 75), some (yi t), some (yi w), some (yi 6), none] [] M' N Q) → ry S d 159 10 [some (yr 75), some (yi t), some (yi w), some (yi q), none] [] M N Q := by
  induction j with
  | zero =>
    intro q M h0 h1 hA kk
    refine r_run 2 (pc' := 13) (ls' := [some (yr 75), some (yi t), some (yi w), some (yi q), none]) (st' := [yi 6, yi q]) (M' := M) (N' := N) rfl ?_
    refine r_icmp_ge (pc := 13) f_159_13 (by omega) (by omega) (fun h13 => ?_) (fun h13 => ?_)
    · have e : q = 6 := by omega
      subst e
      exact kk M (fun c _ => rfl) (fun i _ _ => rfl) (fun i i0 i1 => by omega)
    · exfalso; omega
  | succ j ih =>
    intro q M h0 h1 hA kk
    have ha := hA.lh (q := q) ⟨h0, by omega⟩
    refine r_run 2 (pc' := 13) (ls' := [some (yr 75), some (yi t), some (yi w), some (yi q), none]) (st' := [yi 6, yi q]) (M' := M) (N' := N) rfl ?_
    refine r_icmp_ge (pc := 13) f_159_13 (by omega) (by omega) (fun h13 => ?_) (fun h13 => ?_)
    · exfalso; omega
    · refine r_run 8 (pc' := 26) (ls' := [some (yr 75), some (yi t), some (yi w), some (yi q), none]) (st' := [yi ((Int32.ofInt ((Int32.ofInt w >>> (Int32.ofInt q &&& 31)).toInt) &&& Int32.ofInt 1).toInt), yi q, yr 89]) (M' := M) (N' := N) rfl ?_
      refine r_if_ne (pc := 26) f_159_26 ⟨Int32.le_toInt _, Int32.toInt_lt _⟩ (fun h26 => ?_) (fun h26 => ?_)
      · refine r_run 2 (pc' := 39) (ls' := [some (yr 75), some (yi t), some (yi w), some (yi q), none]) (st' := [yi q, yr 75, yi q, yr 89]) (M' := M) (N' := N) rfl ?_
        refine r_virtual (mj := 150) (b := 75) (as := [yi q]) (rest := [yi q, yr 89]) f_159_39 (by decide) rfl m_150 (by decide) (by decide) (by decide) rfl rfl (Nat.le_of_ble_eq_true rfl) (by omega) (m_high (by omega)) ?_
        rintro _ _ _ ⟨v39, rfl, hv39, rfl, rfl⟩
        refine r_iast (n := 6) f_159_42 (by decide) (by decide) (by decide) (by omega) ?_
        refine r_run 2 (pc' := 10) (ls' := [some (yr 75), some (yi t), some (yi w), some (yi (q + 1)), none]) (st' := []) (M' := (yu M 89 q v39)) (N' := N) rfl ?_
        have hc : corner O w q = v39 := by
          unfold corner
          rw [if_neg (show ¬ bit w q = 0 from h26)]; omega
        rw [yu_row, ← hc]
        refine ih (by omega) (by omega) (hA.fr (yrow_ne (by decide))) fun M' g1 g2 g3 => kk M' (fun c hc => by rw [g1 c hc, yrow_ne hc]) (fun i i0 i1 => ?_) (fun i i0 i1 => ?_)
        · rw [g2 i i0 (by omega), yrow_at, up_ne (by omega)]
        · by_cases hi : i = q
          · rw [hi, g2 q h0 (by omega), yrow_at, up_at]
          · exact g3 i (by omega) i1
      · refine r_run 2 (pc' := 31) (ls' := [some (yr 75), some (yi t), some (yi w), some (yi q), none]) (st' := [yi q, yr 75, yi q, yr 89]) (M' := M) (N' := N) rfl ?_
        refine r_virtual (mj := 149) (b := 75) (as := [yi q]) (rest := [yi q, yr 89]) f_159_31 (by decide) rfl m_149 (by decide) (by decide) (by decide) rfl rfl (Nat.le_of_ble_eq_true rfl) (by omega) (m_low (by omega)) ?_
        rintro _ _ _ ⟨v31, rfl, hv31, rfl, rfl⟩
        refine r_run 1 (pc' := 42) (ls' := [some (yr 75), some (yi t), some (yi w), some (yi q), none]) (st' := [yi v31, yi q, yr 89]) (M' := M) (N' := N) rfl ?_
        refine r_iast (n := 6) f_159_42 (by decide) (by decide) (by decide) (by omega) ?_
        refine r_run 2 (pc' := 10) (ls' := [some (yr 75), some (yi t), some (yi w), some (yi (q + 1)), none]) (st' := []) (M' := (yu M 89 q v31)) (N' := N) rfl ?_
        have hc : corner O w q = v31 := by
          unfold corner
          rw [if_pos (show bit w q = 0 from h26)]; omega
        rw [yu_row, ← hc]
        refine ih (by omega) (by omega) (hA.fr (yrow_ne (by decide))) fun M' g1 g2 g3 => kk M' (fun c hc => by rw [g1 c hc, yrow_ne hc]) (fun i i0 i1 => ?_) (fun i i0 i1 => ?_)
        · rw [g2 i i0 (by omega), yrow_at, up_ne (by omega)]
        · by_cases hi : i = q
          · rw [hi, g2 q h0 (by omega), yrow_at, up_at]
          · exact g3 i (by omega) i1
theorem m_reck_l {S : XS} {d : Nat} {t : Int} {O : Int → Int → Int} (hd : 5 ≤ d) {j : Nat} : ∀ {w : Int} {M N : YM} {l3 : Option YV}, 1 ≤ w → w + j = 64 → Rel M → (0 ≤ t ∧ t < M 75 9) → mAt M O → (-2147483648 ≤ N 75 35 ∧ N 75 35 < 2147483648) → (-2147483648 ≤ N 75 36 ∧ N 75 36 < 2147483648) → ry S d 159 2 [some (yr 75), some (yi t), some (yi w), l3, none] [] M N (fun r M' N' => none = r ∧ N' 75 35 = rmn (rF M t O) j w (N 75 35) ∧ N' 75 36 = rmx (rF M t O) j w (N 75 36) ∧ ∀ c, c ≠ 88 → c ≠ 89 → M' c = M c) := by
  induction j with
  | zero =>
    intro w M N l3 h0 h1 R ht hA n35 n36
    refine r_run 2 (pc' := 5) (ls' := [some (yr 75), some (yi t), some (yi w), l3, none]) (st' := [yi 64, yi w]) (M' := M) (N' := N) rfl ?_
    refine r_icmp_ge (pc := 5) f_159_5 (by omega) (by omega) (fun h5 => ?_) (fun h5 => ?_)
    · refine r_vret m_159 rfl f_159_113 ?_
      exact ⟨rfl, rfl, rfl, fun _ _ _ => rfl⟩
    · exfalso; omega
  | succ j ih =>
    intro w M N l3 h0 h1 R ht hA n35 n36
    refine r_run 2 (pc' := 5) (ls' := [some (yr 75), some (yi t), some (yi w), l3, none]) (st' := [yi 64, yi w]) (M' := M) (N' := N) rfl ?_
    refine r_icmp_ge (pc := 5) f_159_5 (by omega) (by omega) (fun h5 => ?_) (fun h5 => ?_)
    · exfalso; omega
    · refine r_run 2 (pc' := 10) (ls' := [some (yr 75), some (yi t), some (yi w), some (yi 0), none]) (st' := []) (M' := M) (N' := N) rfl ?_
      refine m_reck_in (O := O) (j := 6) (by omega) (Int.le_refl 0) rfl hA fun MB g1 _ gB => ?_
      have eB : eqn M MB := eqn.ofm fun c hc => g1 c (by omega)
      have RB := R.congr eB
      have f9 : MB 75 9 = M 75 9 := by rw [g1 75 (by decide)]
      have nB : ∀ q, in6 q → -2147483648 ≤ MB 89 q ∧ MB 89 q < 2147483648 := fun q hq => by have := corner_in hA.o (w) q hq; rw [gB q hq.1 (by omega)]; omega
      have kv : txT MB t 0 (MB 89) = rF M t O (w) := by
        rw [txT_congr RB.t (by rw [f9]; exact ht) (by omega) (nm' := corner O (w)) (fun q hq => gB q hq.1 (by omega)), eB.eqx.eT]; rfl
      refine r_run 3 (pc' := 52) (ls' := [some (yr 75), some (yi t), some (yi w), some (yi 6), none]) (st' := [yi 0, yi t, yr 75]) (M' := MB) (N' := N) rfl ?_
      refine r_virtual (mj := 158) (b := 75) (as := [yi t, yi 0]) (rest := []) f_159_52 (by decide) rfl m_158 (by decide) (by decide) (by decide) rfl rfl (Nat.le_of_ble_eq_true rfl) (by omega) (m_saysBy RB.t (by rw [f9]; exact ht) (by omega) nB) ?_
      rintro _ MC _ ⟨v, rfl, ⟨hv, hfr⟩, rfl⟩
      rw [kv] at hv
      have vb := rF_in R.t ht hA.o (w)
      have g3 : ∀ c, c ≠ 88 → c ≠ 89 → MC c = M c := fun c h1 h2 => by rw [hfr c h1, g1 c h2]
      refine r_i2l f_159_55 (by omega) ?_
      refine r_run 3 (pc' := 59) (ls' := [some (yr 75), some (yi t), some (yi w), some (yj v), none]) (st' := [yi w, yr 75]) (M' := MC) (N' := N) rfl ?_
      refine r_if_eq (pc := 59) f_159_59 (by omega) (fun h59 => ?_) (fun h59 => ?_)
      · exfalso; omega
      · refine r_run 3 (pc' := 67) (ls' := [some (yr 75), some (yi t), some (yi w), some (yj v), none]) (st' := [yj (N 75 35), yj v, yr 75]) (M' := MC) (N' := N) rfl ?_
        refine r_lcmp f_159_67 (by omega) (by omega) (fun v67 hv67 => ?_)
        refine r_if_ge (pc := 68) f_159_68 (by omega) (fun h68 => ?_) (fun h68 => ?_)
        · refine r_run 5 (pc' := 84) (ls' := [some (yr 75), some (yi t), some (yi w), some (yj v), none]) (st' := [yi w, yr 75]) (M' := MC) (N' := (yu N 75 35 (N 75 35))) rfl ?_
          refine r_if_eq (pc := 84) f_159_84 (by omega) (fun h84 => ?_) (fun h84 => ?_)
          · exfalso; omega
          · refine r_run 3 (pc' := 92) (ls' := [some (yr 75), some (yi t), some (yi w), some (yj v), none]) (st' := [yj (N 75 36), yj v, yr 75]) (M' := MC) (N' := (yu N 75 35 (N 75 35))) rfl ?_
            refine r_lcmp f_159_92 (by omega) (by omega) (fun v92 hv92 => ?_)
            refine r_if_le (pc := 93) f_159_93 (by omega) (fun h93 => ?_) (fun h93 => ?_)
            · refine r_run 5 (pc' := 2) (ls' := [some (yr 75), some (yi t), some (yi (w + 1)), some (yj v), none]) (st' := []) (M' := MC) (N' := (yu (yu N 75 35 (N 75 35)) 75 36 (N 75 36))) rfl ?_
              have e1 : N 75 35 = imin (N 75 35) (rF M t O w) := by unfold imin; split <;> omega
              have e2 : N 75 36 = imax (N 75 36) (rF M t O w) := by unfold imax; split <;> omega
              have eC : eqn M MC := eqn.ofm fun c hc => g3 c (by omega) (by omega)
              have n1 : yu (yu N 75 35 (N 75 35)) 75 36 (N 75 36) 75 35 = N 75 35 := by rw [yu_ne (by omega), yu_at]
              have n2 : yu (yu N 75 35 (N 75 35)) 75 36 (N 75 36) 75 36 = N 75 36 := yu_at
              have c9 : MC 75 9 = M 75 9 := by rw [g3 75 (by decide) (by decide)]
              refine r_post (ih (l3 := some (yj v)) (by omega) (by omega) (R.congr eC) ⟨ht.1, by rw [c9]; exact ht.2⟩ (hA.fr (g3 92 (by decide) (by decide))) (by rw [n1]; omega) (by rw [n2]; omega)) ?_
              rintro _ M' N' ⟨rfl, k1, k2, k3⟩
              rw [n1, eC.eqx.eR, e1] at k1
              rw [n2, eC.eqx.eR, e2] at k2
              exact ⟨rfl, k1, k2, fun c h1 h2 => by rw [k3 c h1 h2, g3 c h1 h2]⟩
            · refine r_run 5 (pc' := 2) (ls' := [some (yr 75), some (yi t), some (yi (w + 1)), some (yj v), none]) (st' := []) (M' := MC) (N' := (yu (yu N 75 35 (N 75 35)) 75 36 v)) rfl ?_
              have e1 : N 75 35 = imin (N 75 35) (rF M t O w) := by unfold imin; split <;> omega
              have e2 : v = imax (N 75 36) (rF M t O w) := by unfold imax; split <;> omega
              have eC : eqn M MC := eqn.ofm fun c hc => g3 c (by omega) (by omega)
              have n1 : yu (yu N 75 35 (N 75 35)) 75 36 (v) 75 35 = N 75 35 := by rw [yu_ne (by omega), yu_at]
              have n2 : yu (yu N 75 35 (N 75 35)) 75 36 (v) 75 36 = v := yu_at
              have c9 : MC 75 9 = M 75 9 := by rw [g3 75 (by decide) (by decide)]
              refine r_post (ih (l3 := some (yj v)) (by omega) (by omega) (R.congr eC) ⟨ht.1, by rw [c9]; exact ht.2⟩ (hA.fr (g3 92 (by decide) (by decide))) (by rw [n1]; omega) (by rw [n2]; omega)) ?_
              rintro _ M' N' ⟨rfl, k1, k2, k3⟩
              rw [n1, eC.eqx.eR, e1] at k1
              rw [n2, eC.eqx.eR, e2] at k2
              exact ⟨rfl, k1, k2, fun c h1 h2 => by rw [k3 c h1 h2, g3 c h1 h2]⟩
        · refine r_run 5 (pc' := 84) (ls' := [some (yr 75), some (yi t), some (yi w), some (yj v), none]) (st' := [yi w, yr 75]) (M' := MC) (N' := (yu N 75 35 v)) rfl ?_
          refine r_if_eq (pc := 84) f_159_84 (by omega) (fun h84 => ?_) (fun h84 => ?_)
          · exfalso; omega
          · refine r_run 3 (pc' := 92) (ls' := [some (yr 75), some (yi t), some (yi w), some (yj v), none]) (st' := [yj (N 75 36), yj v, yr 75]) (M' := MC) (N' := (yu N 75 35 v)) rfl ?_
            refine r_lcmp f_159_92 (by omega) (by omega) (fun v92 hv92 => ?_)
            refine r_if_le (pc := 93) f_159_93 (by omega) (fun h93 => ?_) (fun h93 => ?_)
            · refine r_run 5 (pc' := 2) (ls' := [some (yr 75), some (yi t), some (yi (w + 1)), some (yj v), none]) (st' := []) (M' := MC) (N' := (yu (yu N 75 35 v) 75 36 (N 75 36))) rfl ?_
              have e1 : v = imin (N 75 35) (rF M t O w) := by unfold imin; split <;> omega
              have e2 : N 75 36 = imax (N 75 36) (rF M t O w) := by unfold imax; split <;> omega
              have eC : eqn M MC := eqn.ofm fun c hc => g3 c (by omega) (by omega)
              have n1 : yu (yu N 75 35 (v)) 75 36 (N 75 36) 75 35 = v := by rw [yu_ne (by omega), yu_at]
              have n2 : yu (yu N 75 35 (v)) 75 36 (N 75 36) 75 36 = N 75 36 := yu_at
              have c9 : MC 75 9 = M 75 9 := by rw [g3 75 (by decide) (by decide)]
              refine r_post (ih (l3 := some (yj v)) (by omega) (by omega) (R.congr eC) ⟨ht.1, by rw [c9]; exact ht.2⟩ (hA.fr (g3 92 (by decide) (by decide))) (by rw [n1]; omega) (by rw [n2]; omega)) ?_
              rintro _ M' N' ⟨rfl, k1, k2, k3⟩
              rw [n1, eC.eqx.eR, e1] at k1
              rw [n2, eC.eqx.eR, e2] at k2
              exact ⟨rfl, k1, k2, fun c h1 h2 => by rw [k3 c h1 h2, g3 c h1 h2]⟩
            · refine r_run 5 (pc' := 2) (ls' := [some (yr 75), some (yi t), some (yi (w + 1)), some (yj v), none]) (st' := []) (M' := MC) (N' := (yu (yu N 75 35 v) 75 36 v)) rfl ?_
              have e1 : v = imin (N 75 35) (rF M t O w) := by unfold imin; split <;> omega
              have e2 : v = imax (N 75 36) (rF M t O w) := by unfold imax; split <;> omega
              have eC : eqn M MC := eqn.ofm fun c hc => g3 c (by omega) (by omega)
              have n1 : yu (yu N 75 35 (v)) 75 36 (v) 75 35 = v := by rw [yu_ne (by omega), yu_at]
              have n2 : yu (yu N 75 35 (v)) 75 36 (v) 75 36 = v := yu_at
              have c9 : MC 75 9 = M 75 9 := by rw [g3 75 (by decide) (by decide)]
              refine r_post (ih (l3 := some (yj v)) (by omega) (by omega) (R.congr eC) ⟨ht.1, by rw [c9]; exact ht.2⟩ (hA.fr (g3 92 (by decide) (by decide))) (by rw [n1]; omega) (by rw [n2]; omega)) ?_
              rintro _ M' N' ⟨rfl, k1, k2, k3⟩
              rw [n1, eC.eqx.eR, e1] at k1
              rw [n2, eC.eqx.eR, e2] at k2
              exact ⟨rfl, k1, k2, fun c h1 h2 => by rw [k3 c h1 h2, g3 c h1 h2]⟩
theorem m_reckons {S : XS} {M N : YM} {t : Int} {O : Int → Int → Int} (R : Rel M) (ht : 0 ≤ t ∧ t < M 75 9) (hA : mAt M O) : rm S 5 159 [yr 75, yi t] M N (fun r M' N' => none = r ∧ N' 75 35 = rLo M t O ∧ N' 75 36 = rHi M t O ∧ ∀ c, c ≠ 88 → c ≠ 89 → M' c = M c) := by
  refine ⟨xe_159, m_159, Nat.le_of_ble_eq_true rfl, ?_⟩
  refine r_run 2 (pc' := 2) (ls' := [some (yr 75), some (yi t), some (yi 0), none, none]) (st' := []) (M' := M) (N' := N) rfl ?_
  refine r_run 2 (pc' := 5) (ls' := [some (yr 75), some (yi t), some (yi 0), none, none]) (st' := [yi 64, yi 0]) (M' := M) (N' := N) rfl ?_
  refine r_icmp_ge (pc := 5) f_159_5 (by omega) (by omega) (fun h5 => ?_) (fun h5 => ?_)
  · exfalso; omega
  · refine r_run 2 (pc' := 10) (ls' := [some (yr 75), some (yi t), some (yi 0), some (yi 0), none]) (st' := []) (M' := M) (N' := N) rfl ?_
    refine m_reck_in (O := O) (j := 6) (by omega) (Int.le_refl 0) rfl hA fun MB g1 _ gB => ?_
    have eB : eqn M MB := eqn.ofm fun c hc => g1 c (by omega)
    have RB := R.congr eB
    have f9 : MB 75 9 = M 75 9 := by rw [g1 75 (by decide)]
    have nB : ∀ q, in6 q → -2147483648 ≤ MB 89 q ∧ MB 89 q < 2147483648 := fun q hq => by have := corner_in hA.o (0) q hq; rw [gB q hq.1 (by omega)]; omega
    have kv : txT MB t 0 (MB 89) = rF M t O (0) := by
      rw [txT_congr RB.t (by rw [f9]; exact ht) (by omega) (nm' := corner O (0)) (fun q hq => gB q hq.1 (by omega)), eB.eqx.eT]; rfl
    refine r_run 3 (pc' := 52) (ls' := [some (yr 75), some (yi t), some (yi 0), some (yi 6), none]) (st' := [yi 0, yi t, yr 75]) (M' := MB) (N' := N) rfl ?_
    refine r_virtual (mj := 158) (b := 75) (as := [yi t, yi 0]) (rest := []) f_159_52 (by decide) rfl m_158 (by decide) (by decide) (by decide) rfl rfl (Nat.le_of_ble_eq_true rfl) (by omega) (m_saysBy RB.t (by rw [f9]; exact ht) (by omega) nB) ?_
    rintro _ MC _ ⟨v, rfl, ⟨hv, hfr⟩, rfl⟩
    rw [kv] at hv
    have vb := rF_in R.t ht hA.o (0)
    have g3 : ∀ c, c ≠ 88 → c ≠ 89 → MC c = M c := fun c h1 h2 => by rw [hfr c h1, g1 c h2]
    refine r_i2l f_159_55 (by omega) ?_
    refine r_run 3 (pc' := 59) (ls' := [some (yr 75), some (yi t), some (yi 0), some (yj v), none]) (st' := [yi 0, yr 75]) (M' := MC) (N' := N) rfl ?_
    refine r_if_eq (pc := 59) f_159_59 (by omega) (fun h59 => ?_) (fun h59 => ?_)
    · refine r_run 5 (pc' := 84) (ls' := [some (yr 75), some (yi t), some (yi 0), some (yj v), none]) (st' := [yi 0, yr 75]) (M' := MC) (N' := (yu N 75 35 v)) rfl ?_
      refine r_if_eq (pc := 84) f_159_84 (by omega) (fun h84 => ?_) (fun h84 => ?_)
      · refine r_run 5 (pc' := 2) (ls' := [some (yr 75), some (yi t), some (yi (0 + 1)), some (yj v), none]) (st' := []) (M' := MC) (N' := (yu (yu N 75 35 v) 75 36 v)) rfl ?_
        have eC : eqn M MC := eqn.ofm fun c hc => g3 c (by omega) (by omega)
        have n1 : yu (yu N 75 35 v) 75 36 v 75 35 = v := by rw [yu_ne (by omega), yu_at]
        have n2 : yu (yu N 75 35 v) 75 36 v 75 36 = v := yu_at
        have c9 : MC 75 9 = M 75 9 := by rw [g3 75 (by decide) (by decide)]
        refine r_post (m_reck_l (j := 63) (l3 := some (yj v)) (by omega) (by omega) (by omega) (R.congr eC) ⟨ht.1, by rw [c9]; exact ht.2⟩ (hA.fr (g3 92 (by decide) (by decide))) (by rw [n1]; omega) (by rw [n2]; omega)) ?_
        rintro _ M' N' ⟨rfl, k1, k2, k3⟩
        rw [n1, eC.eqx.eR, hv] at k1
        rw [n2, eC.eqx.eR, hv] at k2
        exact ⟨rfl, k1, k2, fun c h1 h2 => by rw [k3 c h1 h2, g3 c h1 h2]⟩
      · exact absurd h84 (by decide)
    · exact absurd h59 (by decide)
theorem m_width {S : XS} {M N : YM} {t : Int} {O : Int → Int → Int} (R : Rel M) (ht : 0 ≤ t ∧ t < M 75 9) (hA : mAt M O) : rm S 6 160 [yr 75, yi t] M N (fun r M' _ => ∃ v : Int, some (yj v) = r ∧ v = rHi M t O - rLo M t O ∧ ∀ c, c ≠ 88 → c ≠ 89 → M' c = M c) := by
  refine ⟨xe_160, m_160, Nat.le_of_ble_eq_true rfl, ?_⟩
  refine r_run 2 (pc' := 2) (ls' := [some (yr 75), some (yi t)]) (st' := [yi t, yr 75]) (M' := M) (N' := N) rfl ?_
  refine r_virtual (mj := 159) (b := 75) (as := [yi t]) (rest := []) f_160_2 (by decide) rfl m_159 (by decide) (by decide) (by decide) rfl rfl (Nat.le_of_ble_eq_true rfl) (by omega) (m_reckons (by assumption) (by assumption) hA) ?_
  rintro _ M3 N3 ⟨rfl, k1, k2, k3⟩
  refine r_run 5 (pc' := 14) (ls' := [some (yr 75), some (yi t)]) (st' := [yj ((N3 75 36) - (N3 75 35))]) (M' := M3) (N' := N3) rfl ?_
  refine r_lret m_160 rfl f_160_14 ?_
  exact ⟨_, rfl, by rw [k1, k2], k3⟩
/-- a width of the spans' table -/
noncomputable def fBetween (t w : Int) (M : YM) : Int := if (t < 0 ∨ M 75 9 ≤ t) ∨ (w < 0 ∨ 2 < w) ∨ nV M = 0 then -4611686018427387904 else if w = 0 then rLo M t (nT M) else if w = 1 then rHi M t (nT M) else rHi M t (nT M) - rLo M t (nT M)
theorem eqn.e9 {M M' : YM} (e : eqn M M') : M' 75 9 = M 75 9 := e 75 9 (by unfold sc; omega)
theorem eqn.e10 {M M' : YM} (e : eqn M M') : M' 75 10 = M 75 10 := e 75 10 (by unfold sc; omega)
theorem fBetween_eq {t w : Int} {M M' : YM} (e : eqn M M') : fBetween t w M' = fBetween t w M := by
  unfold fBetween
  rw [e.e9, e.eqs.eV, e.eqs.eT, e.eqx.eL.1, e.eqx.eL.2]
theorem c_between {S : XS} {M N : YM} {t w : Int} (hqt : -2147483648 ≤ t ∧ t < 2147483648) (hqw : -2147483648 ≤ w ∧ w < 2147483648) (R : Rel M) : rm S 6 68 [yr 0, yi t, yi w] M N (fun r M' _ => ∃ v : Int, some (yj v) = r ∧ v = fBetween t w M ∧ eqn M M') := by
  refine ⟨xe_68, m_68, Nat.le_of_ble_eq_true rfl, ?_⟩
  refine r_run 2 (pc' := 2) (ls' := [some (yr 0), some (yi t), some (yi w), none, none]) (st' := [yi t, yr 0]) (M' := M) (N' := N) rfl ?_
  refine r_virtual (mj := 94) (b := 0) (as := [yi t]) (rest := []) f_68_2 (by decide) rfl m_94 (by decide) (by decide) (by decide) rfl rfl (Nat.le_of_ble_eq_true rfl) (by omega) (c_isText (by assumption) (by have := R.t.1; have := R.t.2.1; omega)) ?_
  rintro _ _ _ ⟨vt, rfl, hvt, rfl, rfl⟩
  have e5 := R.t.1
  have e59 := R.t.2.1
  refine r_if_eq (pc := 5) f_68_5 (by omega) (fun h5 => ?_) (fun h5 => ?_)
  · refine r_run 1 (pc' := 27) (ls' := [some (yr 0), some (yi t), some (yi w), none, none]) (st' := [yj (-4611686018427387904)]) (M' := M) (N' := N) rfl ?_
    refine r_lret m_68 rfl f_68_27 ?_
    exact ⟨_, rfl, by unfold fBetween; rw [if_pos (by omega)], eqn.refl⟩
  · refine r_run 3 (pc' := 11) (ls' := [some (yr 0), some (yi t), some (yi w), none, none]) (st' := [yi 2, yi 0, yi w]) (M' := M) (N' := N) rfl ?_
    refine r_static (mj := 90) (as := [yi w, yi 0, yi 2]) (rest := []) f_68_11 (by decide) rfl m_90 rfl rfl rfl (Nat.le_of_ble_eq_true rfl) (by omega) (c_within (by omega) (by omega) (by omega)) ?_
    rintro _ _ _ ⟨v11, rfl, hv11, rfl, rfl⟩
    refine r_if_eq (pc := 14) f_68_14 (by omega) (fun h14 => ?_) (fun h14 => ?_)
    · refine r_run 1 (pc' := 27) (ls' := [some (yr 0), some (yi t), some (yi w), none, none]) (st' := [yj (-4611686018427387904)]) (M' := M) (N' := N) rfl ?_
      refine r_lret m_68 rfl f_68_27 ?_
      exact ⟨_, rfl, by unfold fBetween; rw [if_pos (by omega)], eqn.refl⟩
    · refine r_run 1 (pc' := 18) (ls' := [some (yr 0), some (yi t), some (yi w), none, none]) (st' := [yr 0]) (M' := M) (N' := N) rfl ?_
      refine r_virtual (mj := 97) (b := 0) (as := []) (rest := []) f_68_18 (by decide) rfl m_97 (by decide) (by decide) (by decide) rfl rfl (Nat.le_of_ble_eq_true rfl) (by omega) (c_can1 R) ?_
      rintro _ M2 _ ⟨v, rfl, ⟨hv, hv01, hat, hBE, hfr, R2, hq, hT⟩, rfl⟩
      refine r_if_ne (pc := 21) f_68_21 (by omega) (fun h21 => ?_) (fun h21 => ?_)
      · refine r_run 4 (pc' := 34) (ls' := [some (yr 0), some (yi t), some (yi w), none, none]) (st' := [yi t, yr 26, yr 0]) (M' := M2) (N' := N) rfl ?_
        refine r_aald (r := 49 + 3 * t) (kd := 105) (n := 6) f_68_34 (by decide) (by decide) (by decide) (by decide) (by omega) (rf_text (by omega)) ?_
        refine r_virtual (mj := 99) (b := 0) (as := [yr (49 + 3 * t)]) (rest := []) f_68_35 (by decide) rfl m_99 (by decide) (by decide) (by decide) rfl rfl (Nat.le_of_ble_eq_true rfl) (by omega) (c_width R2 (by rw [hq.e9]; omega) (hat (by omega))) ?_
        rintro _ M3 _ ⟨vw, rfl, ⟨w1, w2, w3, W4⟩, rfl⟩
        rw [hq.eqx.eL.1] at w1 w2
        rw [hq.eqx.eL.2] at w1 w3
        have lb := rLo_in R.t (t := t) ⟨by omega, by omega⟩ (hat (by omega)).o
        refine r_run 2 (pc' := 40) (ls' := [some (yr 0), some (yi t), some (yi w), some (yj vw), none]) (st' := [yi w]) (M' := M3) (N' := N) rfl ?_
        refine r_if_ne (pc := 40) f_68_40 (by omega) (fun h40 => ?_) (fun h40 => ?_)
        · refine r_run 2 (pc' := 53) (ls' := [some (yr 0), some (yi t), some (yi w), some (yj vw), none]) (st' := [yi 1, yi w]) (M' := M3) (N' := N) rfl ?_
          refine r_icmp_ne (pc := 53) f_68_53 (by omega) (by omega) (fun h53 => ?_) (fun h53 => ?_)
          · refine r_run 1 (pc' := 65) (ls' := [some (yr 0), some (yi t), some (yi w), some (yj vw), none]) (st' := [yj vw]) (M' := M3) (N' := N) rfl ?_
            refine r_lret m_68 rfl f_68_65 ?_
            exact ⟨_, rfl, by unfold fBetween; rw [if_neg (by omega), if_neg (by omega), if_neg (by omega)]; exact w1, hq.trans W4.eqn⟩
          · refine r_run 2 (pc' := 60) (ls' := [some (yr 0), some (yi t), some (yi w), some (yj vw), none]) (st' := [yi (M3 0 12)]) (M' := M3) (N' := N) rfl ?_
            refine r_i2l f_68_60 (by omega) ?_
            refine r_run 1 (pc' := 65) (ls' := [some (yr 0), some (yi t), some (yi w), some (yj vw), none]) (st' := [yj (M3 0 12)]) (M' := M3) (N' := N) rfl ?_
            refine r_lret m_68 rfl f_68_65 ?_
            exact ⟨_, rfl, by unfold fBetween; rw [if_neg (by omega), if_neg (by omega), if_pos (by omega)]; exact w3, hq.trans W4.eqn⟩
        · refine r_run 2 (pc' := 47) (ls' := [some (yr 0), some (yi t), some (yi w), some (yj vw), none]) (st' := [yi (M3 0 11)]) (M' := M3) (N' := N) rfl ?_
          refine r_i2l f_68_47 (by omega) ?_
          refine r_run 1 (pc' := 65) (ls' := [some (yr 0), some (yi t), some (yi w), some (yj vw), none]) (st' := [yj (M3 0 11)]) (M' := M3) (N' := N) rfl ?_
          refine r_lret m_68 rfl f_68_65 ?_
          exact ⟨_, rfl, by unfold fBetween; rw [if_neg (by omega), if_pos (by omega)]; exact w2, hq.trans W4.eqn⟩
      · refine r_run 1 (pc' := 27) (ls' := [some (yr 0), some (yi t), some (yi w), none, none]) (st' := [yj (-4611686018427387904)]) (M' := M2) (N' := N) rfl ?_
        refine r_lret m_68 rfl f_68_27 ?_
        exact ⟨_, rfl, by unfold fBetween; rw [if_pos (by omega)], hq⟩
theorem m_between2 {S : XS} {M N : YM} {t w : Int} (hqt : -2147483648 ≤ t ∧ t < 2147483648) (hqw : -2147483648 ≤ w ∧ w < 2147483648) (R : Rel M) : rm S 6 161 [yr 75, yi t, yi w] M N (fun r M' _ => ∃ v : Int, some (yj v) = r ∧ v = fBetween t w M ∧ eqn M M') := by
  refine ⟨xe_161, m_161, Nat.le_of_ble_eq_true rfl, ?_⟩
  refine r_run 2 (pc' := 2) (ls' := [some (yr 75), some (yi t), some (yi w)]) (st' := [yi t, yr 75]) (M' := M) (N' := N) rfl ?_
  refine r_virtual (mj := 116) (b := 75) (as := [yi t]) (rest := []) f_161_2 (by decide) rfl m_116 (by decide) (by decide) (by decide) rfl rfl (Nat.le_of_ble_eq_true rfl) (by omega) (m_isOfTexts (by assumption) (by have := R.t.2.1; omega)) ?_
  rintro _ _ _ ⟨vt, rfl, hvt, rfl, rfl⟩
  have e59 := R.t.2.1
  refine r_if_eq (pc := 5) f_161_5 (by omega) (fun h5 => ?_) (fun h5 => ?_)
  · refine r_run 1 (pc' := 27) (ls' := [some (yr 75), some (yi t), some (yi w)]) (st' := [yj (-4611686018427387904)]) (M' := M) (N' := N) rfl ?_
    refine r_lret m_161 rfl f_161_27 ?_
    exact ⟨_, rfl, by unfold fBetween; rw [if_pos (by omega)], eqn.refl⟩
  · refine r_run 3 (pc' := 11) (ls' := [some (yr 75), some (yi t), some (yi w)]) (st' := [yi 2, yi 0, yi w]) (M' := M) (N' := N) rfl ?_
    refine r_static (mj := 112) (as := [yi w, yi 0, yi 2]) (rest := []) f_161_11 (by decide) rfl m_112 rfl rfl rfl (Nat.le_of_ble_eq_true rfl) (by omega) (m_in (by omega) (by omega) (by omega)) ?_
    rintro _ _ _ ⟨v11, rfl, hv11, rfl, rfl⟩
    refine r_if_eq (pc := 14) f_161_14 (by omega) (fun h14 => ?_) (fun h14 => ?_)
    · refine r_run 1 (pc' := 27) (ls' := [some (yr 75), some (yi t), some (yi w)]) (st' := [yj (-4611686018427387904)]) (M' := M) (N' := N) rfl ?_
      refine r_lret m_161 rfl f_161_27 ?_
      exact ⟨_, rfl, by unfold fBetween; rw [if_pos (by omega)], eqn.refl⟩
    · refine r_run 1 (pc' := 18) (ls' := [some (yr 75), some (yi t), some (yi w)]) (st' := [yr 75]) (M' := M) (N' := N) rfl ?_
      refine r_virtual (mj := 148) (b := 75) (as := []) (rest := []) f_161_18 (by decide) rfl m_148 (by decide) (by decide) (by decide) rfl rfl (Nat.le_of_ble_eq_true rfl) (by omega) (m_can1 R) ?_
      rintro _ M2 _ ⟨v, rfl, ⟨hv, hv01, hat, hBE, hfr, R2, hq⟩, rfl⟩
      refine r_if_ne (pc := 21) f_161_21 (by omega) (fun h21 => ?_) (fun h21 => ?_)
      · refine r_run 2 (pc' := 30) (ls' := [some (yr 75), some (yi t), some (yi w)]) (st' := [yi t, yr 75]) (M' := M2) (N' := N) rfl ?_
        refine r_virtual (mj := 159) (b := 75) (as := [yi t]) (rest := []) f_161_30 (by decide) rfl m_159 (by decide) (by decide) (by decide) rfl rfl (Nat.le_of_ble_eq_true rfl) (by omega) (m_reckons R2 (by rw [hq.e9]; omega) (hat (by omega))) ?_
        rintro _ M3 N3 ⟨rfl, k1, k2, k3⟩
        rw [hq.eqx.eL.1] at k1
        rw [hq.eqx.eL.2] at k2
        refine r_run 1 (pc' := 34) (ls' := [some (yr 75), some (yi t), some (yi w)]) (st' := [yi w]) (M' := M3) (N' := N3) rfl ?_
        refine r_if_ne (pc := 34) f_161_34 (by omega) (fun h34 => ?_) (fun h34 => ?_)
        · refine r_run 2 (pc' := 46) (ls' := [some (yr 75), some (yi t), some (yi w)]) (st' := [yi 1, yi w]) (M' := M3) (N' := N3) rfl ?_
          refine r_icmp_ne (pc := 46) f_161_46 (by omega) (by omega) (fun h46 => ?_) (fun h46 => ?_)
          · refine r_run 5 (pc' := 65) (ls' := [some (yr 75), some (yi t), some (yi w)]) (st' := [yj ((N3 75 36) - (N3 75 35))]) (M' := M3) (N' := N3) rfl ?_
            refine r_lret m_161 rfl f_161_65 ?_
            exact ⟨_, rfl, by unfold fBetween; rw [if_neg (by omega), if_neg (by omega), if_neg (by omega)]; omega, hq.trans (eqn.ofm fun c hc => k3 c (by omega) (by omega))⟩
          · refine r_run 3 (pc' := 65) (ls' := [some (yr 75), some (yi t), some (yi w)]) (st' := [yj (N3 75 36)]) (M' := M3) (N' := N3) rfl ?_
            refine r_lret m_161 rfl f_161_65 ?_
            exact ⟨_, rfl, by unfold fBetween; rw [if_neg (by omega), if_neg (by omega), if_pos (by omega)]; omega, hq.trans (eqn.ofm fun c hc => k3 c (by omega) (by omega))⟩
        · refine r_run 3 (pc' := 65) (ls' := [some (yr 75), some (yi t), some (yi w)]) (st' := [yj (N3 75 35)]) (M' := M3) (N' := N3) rfl ?_
          refine r_lret m_161 rfl f_161_65 ?_
          exact ⟨_, rfl, by unfold fBetween; rw [if_neg (by omega), if_pos (by omega)]; omega, hq.trans (eqn.ofm fun c hc => k3 c (by omega) (by omega))⟩
      · refine r_run 1 (pc' := 27) (ls' := [some (yr 75), some (yi t), some (yi w)]) (st' := [yj (-4611686018427387904)]) (M' := M2) (N' := N) rfl ?_
        refine r_lret m_161 rfl f_161_27 ?_
        exact ⟨_, rfl, by unfold fBetween; rw [if_pos (by omega)], hq⟩
theorem p_between {S : XS} {M N : YM} {t w : Int} (hqt : -2147483648 ≤ t ∧ t < 2147483648) (hqw : -2147483648 ≤ w ∧ w < 2147483648) (R : Rel M) : prl S 68 161 [yi t, yi w] M N := prl_q (fBetween t w) (rm_deep (by decide) (c_between hqt hqw R)) (fun M N R => rm_deep (by decide) (m_between2 hqt hqw R)) (fun M' _ e => fBetween_eq e) R
