/-! lowest terms, wagers -/
def glF : Nat → Int → Int → Int
  | 0, d, _ => d
  | j + 1, d, r => if r = 0 then d else glF j r (d % r)
theorem glF_no {j : Nat} {d : Int} : glF j d 0 = d := by
  cases j with
  | zero => rfl
  | succ j => rw [glF, if_pos rfl]
theorem glF_yes {j : Nat} {d r : Int} (h : r ≠ 0) : glF (j + 1) d r = glF j r (d % r) := by rw [glF, if_neg h]
theorem glF_pos {j : Nat} : ∀ {d r : Int}, 0 < d → 0 ≤ r → 0 < glF j d r := by
  induction j with
  | zero => intro d r h _; exact h
  | succ j ih =>
    intro d r h g
    by_cases h0 : r = 0
    · rw [h0, glF_no]; exact h
    · rw [glF_yes h0]; exact ih (by omega) (Int.emod_nonneg _ h0)
theorem glF_le {j : Nat} : ∀ {d r B : Int}, d ≤ B → r ≤ B → 0 ≤ r → glF j d r ≤ B := by
  induction j with
  | zero => intro d r B h _ _; exact h
  | succ j ih =>
    intro d r B h g r0
    by_cases h0 : r = 0
    · rw [h0, glF_no]; exact h
    · rw [glF_yes h0]
      have h1 := Int.emod_lt_of_pos d (show 0 < r by omega)
      exact ih g (by omega) (Int.emod_nonneg _ h0)
/-- what is left after so many turns -/
def glR : Nat → Int → Int → Int
  | 0, _, r => r
  | j + 1, d, r => if r = 0 then 0 else glR j r (d % r)
theorem glR_zero {j : Nat} {d : Int} : glR j d 0 = 0 := by
  cases j with
  | zero => rfl
  | succ j => rw [glR, if_pos rfl]
theorem glR_yes {j : Nat} {d r : Int} (h : r ≠ 0) : glR (j + 1) d r = glR j r (d % r) := by rw [glR, if_neg h]
def pw2 : Nat → Int
  | 0 => 1
  | j + 1 => 2 * pw2 j
theorem glR_end {k : Nat} : ∀ {j : Nat} {d r : Int}, 2 * k ≤ j → 0 ≤ r → r < pw2 k → glR j d r = 0 := by
  induction k with
  | zero => intro j d r _ h0 h1; have e : r = 0 := by (have : r < 1 := h1); omega
            rw [e]; exact glR_zero
  | succ k ih =>
    intro j d r hj h0 h1
    obtain ⟨j, rfl⟩ : ∃ i, j = i + 2 := ⟨j - 2, by omega⟩
    by_cases h : r = 0
    · rw [h]; exact glR_zero
    · rw [glR_yes h]
      by_cases g : d % r = 0
      · rw [g]; exact glR_zero
      · rw [glR_yes g]
        have p0 := Int.emod_nonneg d h
        have p1 := Int.emod_lt_of_pos d (show 0 < r by omega)
        have q0 := Int.emod_nonneg r g
        have q1 := Int.emod_lt_of_pos r (show 0 < d % r by omega)
        have q2 : r % (d % r) + (d % r) * (r / (d % r)) = r := Int.emod_add_mul_ediv r (d % r)
        have q3 : 1 ≤ r / (d % r) := Int.le_ediv_of_mul_le (by omega) (by omega)
        have q4 : (d % r) * 1 ≤ (d % r) * (r / (d % r)) := Int.mul_le_mul_of_nonneg_left q3 (by omega)
        have h2 : r < 2 * pw2 k := h1
        exact ih (by omega) q0 (by omega)
def lwT (a b t : Int) : Int := (if t = 0 then a else b) / glF 100 b a
theorem c_lw_l {S : XS} {d : Nat} {a b t : Int} {M N : YM} {Q : Option YV → YM → YM → Prop} {j : Nat} : ∀ {i dd r : Int} {l10 : Option YV}, 0 ≤ i → i + j = 100 → (0 < dd ∧ dd ≤ 1000000000000) → 0 ≤ r → r ≤ 1000000000000 → (∀ r2 i2 l10, ry S d 107 44 [some (yj a), none, some (yj b), none, some (yi t), some (yj (glF j dd r)), none, some (yj r2), none, some (yi i2), l10, none] [] M N Q) → ry S d 107 9 [some (yj a), none, some (yj b), none, some (yi t), some (yj dd), none, some (yj r), none, some (yi i), l10, none] [] M N Q := by
  induction j with
  | zero =>
    intro i dd r l10 h0 h1 hdd hr0 hr1 kk
    refine r_run 2 (pc' := 13) (ls' := [some (yj a), none, some (yj b), none, some (yi t), some (yj dd), none, some (yj r), none, some (yi i), l10, none]) (st' := [yi 100, yi i]) (M' := M) (N' := N) rfl ?_
    refine r_icmp_ge (pc := 13) f_107_13 (by omega) (by omega) (fun h13 => ?_) (fun h13 => ?_)
    · have e : glF 0 dd r = dd := rfl
      rw [e] at kk
      exact kk r i l10
    · exfalso; omega
  | succ j ih =>
    intro i dd r l10 h0 h1 hdd hr0 hr1 kk
    refine r_run 2 (pc' := 13) (ls' := [some (yj a), none, some (yj b), none, some (yi t), some (yj dd), none, some (yj r), none, some (yi i), l10, none]) (st' := [yi 100, yi i]) (M' := M) (N' := N) rfl ?_
    refine r_icmp_ge (pc := 13) f_107_13 (by omega) (by omega) (fun h13 => ?_) (fun h13 => ?_)
    · exfalso; omega
    · refine r_run 2 (pc' := 19) (ls' := [some (yj a), none, some (yj b), none, some (yi t), some (yj dd), none, some (yj r), none, some (yi i), l10, none]) (st' := [yj 0, yj r]) (M' := M) (N' := N) rfl ?_
      refine r_lcmp f_107_19 (by omega) (by omega) (fun v19 hv19 => ?_)
      refine r_if_eq (pc := 20) f_107_20 (by omega) (fun h20 => ?_) (fun h20 => ?_)
      · have e : glF (j + 1) dd r = dd := by
          rw [show r = 0 by omega]; exact glF_no
        rw [e] at kk
        exact kk r i l10
      · refine r_run 2 (pc' := 27) (ls' := [some (yj a), none, some (yj b), none, some (yi t), some (yj dd), none, some (yj r), none, some (yi i), l10, none]) (st' := [yj r, yj dd]) (M' := M) (N' := N) rfl ?_
        refine r_lrem f_107_27 (by omega) (by omega) ?_
        refine r_run 7 (pc' := 9) (ls' := [some (yj a), none, some (yj b), none, some (yi t), some (yj r), none, some (yj (dd % r)), none, some (yi (i + 1)), some (yj (dd % r)), none]) (st' := []) (M' := M) (N' := N) rfl ?_
        rw [glF_yes (show r ≠ 0 by omega)] at kk
        exact ih (l10 := some (yj (dd % r))) (by omega) (by omega) (by omega) (Int.emod_nonneg _ (by omega)) (by have := Int.emod_lt_of_pos dd (show 0 < r by omega); omega) kk
theorem c_lowest {S : XS} {M N : YM} {a b t : Int} (ha : 0 ≤ a ∧ a ≤ b) (hb : 1 ≤ b ∧ b ≤ 1000000000000) (ht : 0 ≤ t ∧ t ≤ 1) : rm S 0 107 [yj a, yj b, yi t] M N (fun r M' N' => ∃ v : Int, some (yj v) = r ∧ v = lwT a b t ∧ M = M' ∧ N = N') := by
  refine ⟨xe_107, m_107, Nat.le_of_ble_eq_true rfl, ?_⟩
  refine r_run 6 (pc' := 9) (ls' := [some (yj a), none, some (yj b), none, some (yi t), some (yj b), none, some (yj a), none, some (yi 0), none, none]) (st' := []) (M' := M) (N' := N) rfl ?_
  refine c_lw_l (j := 100) (l10 := none) (Int.le_refl 0) rfl (by omega) (by omega) (by omega) (fun r2 i2 l10 => ?_)
  have g1 : 0 < glF 100 b a := glF_pos (by omega) ha.1
  have g2 : glF 100 b a ≤ 1000000000000 := glF_le (by omega) (by omega) ha.1
  refine r_run 1 (pc' := 46) (ls' := [some (yj a), none, some (yj b), none, some (yi t), some (yj (glF 100 b a)), none, some (yj r2), none, some (yi i2), l10, none]) (st' := [yi t]) (M' := M) (N' := N) rfl ?_
  refine r_if_ne (pc := 46) f_107_46 (by omega) (fun h46 => ?_) (fun h46 => ?_)
  · refine r_run 4 (pc' := 59) (ls' := [some (yj a), none, some (yj b), none, some (yi t), some (yj (glF 100 b a)), none, some (yj r2), none, some (yj b), none, none]) (st' := [yj 0, yj (glF 100 b a)]) (M' := M) (N' := N) rfl ?_
    refine r_lcmp f_107_59 (by omega) (by omega) (fun v59 hv59 => ?_)
    refine r_if_le (pc := 60) f_107_60 (by omega) (fun h60 => ?_) (fun h60 => ?_)
    · refine r_run 1 (pc' := 73) (ls' := [some (yj a), none, some (yj b), none, some (yi t), some (yj (glF 100 b a)), none, some (yj r2), none, some (yj b), none, none]) (st' := [yj b]) (M' := M) (N' := N) rfl ?_
      refine r_lret m_107 rfl f_107_73 ?_
      exfalso; omega
    · refine r_run 2 (pc' := 67) (ls' := [some (yj a), none, some (yj b), none, some (yi t), some (yj (glF 100 b a)), none, some (yj r2), none, some (yj b), none, none]) (st' := [yj (glF 100 b a), yj b]) (M' := M) (N' := N) rfl ?_
      refine r_ldiv f_107_67 (by omega) (by omega) ?_
      refine r_run 1 (pc' := 73) (ls' := [some (yj a), none, some (yj b), none, some (yi t), some (yj (glF 100 b a)), none, some (yj r2), none, some (yj b), none, none]) (st' := [yj (b / (glF 100 b a))]) (M' := M) (N' := N) rfl ?_
      refine r_lret m_107 rfl f_107_73 ?_
      exact ⟨_, rfl, by unfold lwT; rw [if_neg (by omega)], rfl, rfl⟩
  · refine r_run 5 (pc' := 59) (ls' := [some (yj a), none, some (yj b), none, some (yi t), some (yj (glF 100 b a)), none, some (yj r2), none, some (yj a), none, none]) (st' := [yj 0, yj (glF 100 b a)]) (M' := M) (N' := N) rfl ?_
    refine r_lcmp f_107_59 (by omega) (by omega) (fun v59 hv59 => ?_)
    refine r_if_le (pc := 60) f_107_60 (by omega) (fun h60 => ?_) (fun h60 => ?_)
    · refine r_run 1 (pc' := 73) (ls' := [some (yj a), none, some (yj b), none, some (yi t), some (yj (glF 100 b a)), none, some (yj r2), none, some (yj a), none, none]) (st' := [yj a]) (M' := M) (N' := N) rfl ?_
      refine r_lret m_107 rfl f_107_73 ?_
      exfalso; omega
    · refine r_run 2 (pc' := 67) (ls' := [some (yj a), none, some (yj b), none, some (yi t), some (yj (glF 100 b a)), none, some (yj r2), none, some (yj a), none, none]) (st' := [yj (glF 100 b a), yj a]) (M' := M) (N' := N) rfl ?_
      refine r_ldiv f_107_67 (by omega) (by omega) ?_
      refine r_run 1 (pc' := 73) (ls' := [some (yj a), none, some (yj b), none, some (yi t), some (yj (glF 100 b a)), none, some (yj r2), none, some (yj a), none, none]) (st' := [yj (a / (glF 100 b a))]) (M' := M) (N' := N) rfl ?_
      refine r_lret m_107 rfl f_107_73 ?_
      exact ⟨_, rfl, by unfold lwT; rw [if_pos (by omega)], rfl, rfl⟩
theorem m_lw_l {S : XS} {d : Nat} {a b t : Int} {M N : YM} {Q : Option YV → YM → YM → Prop} {j : Nat} : ∀ {dd r : Int} {l9 : Option YV}, glR j dd r = 0 → (0 < dd ∧ dd ≤ 1000000000000) → 0 ≤ r → r ≤ 1000000000000 → (∀ r2 l9, ry S d 170 41 [some (yj a), none, some (yj b), none, some (yi t), some (yj (glF j dd r)), none, some (yj r2), none, l9, none] [] M N Q) → ry S d 170 16 [some (yj a), none, some (yj b), none, some (yi t), some (yj dd), none, some (yj r), none, l9, none] [] M N Q := by
  induction j with
  | zero =>
    intro dd r l9 he hdd hr0 hr1 kk
    refine r_run 2 (pc' := 19) (ls' := [some (yj a), none, some (yj b), none, some (yi t), some (yj dd), none, some (yj r), none, l9, none]) (st' := [yj 0, yj r]) (M' := M) (N' := N) rfl ?_
    refine r_lcmp f_170_19 (by omega) (by omega) (fun v19 hv19 => ?_)
    refine r_if_eq (pc := 20) f_170_20 (by omega) (fun h20 => ?_) (fun h20 => ?_)
    · have e : glF 0 dd r = dd := rfl
      rw [e] at kk
      exact kk r l9
    · exfalso; have he : r = 0 := he; omega
  | succ j ih =>
    intro dd r l9 he hdd hr0 hr1 kk
    refine r_run 2 (pc' := 19) (ls' := [some (yj a), none, some (yj b), none, some (yi t), some (yj dd), none, some (yj r), none, l9, none]) (st' := [yj 0, yj r]) (M' := M) (N' := N) rfl ?_
    refine r_lcmp f_170_19 (by omega) (by omega) (fun v19 hv19 => ?_)
    refine r_if_eq (pc := 20) f_170_20 (by omega) (fun h20 => ?_) (fun h20 => ?_)
    · have e : glF (j + 1) dd r = dd := by
        rw [show r = 0 by omega]; exact glF_no
      rw [e] at kk
      exact kk r l9
    · refine r_run 2 (pc' := 27) (ls' := [some (yj a), none, some (yj b), none, some (yi t), some (yj dd), none, some (yj r), none, l9, none]) (st' := [yj r, yj dd]) (M' := M) (N' := N) rfl ?_
      refine r_lrem f_170_27 (by omega) (by omega) ?_
      refine r_run 6 (pc' := 16) (ls' := [some (yj a), none, some (yj b), none, some (yi t), some (yj r), none, some (yj (dd % r)), none, some (yj (dd % r)), none]) (st' := []) (M' := M) (N' := N) rfl ?_
      rw [glF_yes (show r ≠ 0 by omega)] at kk
      rw [glR_yes (show r ≠ 0 by omega)] at he
      exact ih (l9 := some (yj (dd % r))) he (by omega) (Int.emod_nonneg _ (by omega)) (by have := Int.emod_lt_of_pos dd (show 0 < r by omega); omega) kk
theorem glF_first {a b : Int} (ha : 0 ≤ a ∧ a ≤ b) (hb : 1 ≤ b) : glF 100 b (a % b) = glF 100 b a := by
  by_cases h : a = b
  · rw [h, Int.emod_self, glF_no, glF_yes (by omega), Int.emod_self, glF_no]
  · rw [Int.emod_eq_of_lt ha.1 (by omega)]
theorem m_lowest {S : XS} {M N : YM} {a b t : Int} (ha : 0 ≤ a ∧ a ≤ b) (hb : 1 ≤ b ∧ b ≤ 1000000000000) (ht : 0 ≤ t ∧ t ≤ 1) : rm S 0 170 [yj a, yj b, yi t] M N (fun r M' N' => ∃ v : Int, some (yj v) = r ∧ v = lwT a b t ∧ M = M' ∧ N = N') := by
  refine ⟨xe_170, m_170, Nat.le_of_ble_eq_true rfl, ?_⟩
  refine r_run 2 (pc' := 2) (ls' := [some (yj a), none, some (yj b), none, some (yi t), none, none, none, none, none, none]) (st' := [yj 0, yj a]) (M' := M) (N' := N) rfl ?_
  refine r_lcmp f_170_2 (by omega) (by omega) (fun v2 hv2 => ?_)
  refine r_if_ne (pc := 3) f_170_3 (by omega) (fun h3 => ?_) (fun h3 => ?_)
  · refine r_run 4 (pc' := 16) (ls' := [some (yj a), none, some (yj b), none, some (yi t), some (yj a), none, some (yj b), none, none, none]) (st' := []) (M' := M) (N' := N) rfl ?_
    have e100 := glF_first ha hb.1
    have p40 : pw2 40 = 1099511627776 := by decide
    have m0 : 0 ≤ a % b := Int.emod_nonneg _ (by omega)
    have m1 : a % b < b := Int.emod_lt_of_pos _ (by omega)
    have g1 : 0 < glF 100 b a := glF_pos (by omega) ha.1
    have g2 : glF 100 b a ≤ 1000000000000 := glF_le (by omega) (by omega) ha.1
    refine r_run 2 (pc' := 19) (ls' := [some (yj a), none, some (yj b), none, some (yi t), some (yj a), none, some (yj b), none, none, none]) (st' := [yj 0, yj b]) (M' := M) (N' := N) rfl ?_
    refine r_lcmp f_170_19 (by omega) (by omega) (fun v19 hv19 => ?_)
    refine r_if_eq (pc := 20) f_170_20 (by omega) (fun h20 => ?_) (fun h20 => ?_)
    · exfalso; omega
    · refine r_run 2 (pc' := 27) (ls' := [some (yj a), none, some (yj b), none, some (yi t), some (yj a), none, some (yj b), none, none, none]) (st' := [yj b, yj a]) (M' := M) (N' := N) rfl ?_
      refine r_lrem f_170_27 (by omega) (by omega) ?_
      refine r_run 6 (pc' := 16) (ls' := [some (yj a), none, some (yj b), none, some (yi t), some (yj b), none, some (yj (a % b)), none, some (yj (a % b)), none]) (st' := []) (M' := M) (N' := N) rfl ?_
      refine m_lw_l (j := 100) (l9 := some (yj (a % b))) (glR_end (k := 40) (by decide) m0 (by omega)) (by omega) m0 (by omega) (fun r2 l9 => ?_)
      rw [e100]
      refine r_run 1 (pc' := 43) (ls' := [some (yj a), none, some (yj b), none, some (yi t), some (yj (glF 100 b a)), none, some (yj r2), none, l9, none]) (st' := [yi t]) (M' := M) (N' := N) rfl ?_
      refine r_if_ne (pc := 43) f_170_43 (by omega) (fun h43 => ?_) (fun h43 => ?_)
      · refine r_run 2 (pc' := 53) (ls' := [some (yj a), none, some (yj b), none, some (yi t), some (yj (glF 100 b a)), none, some (yj r2), none, l9, none]) (st' := [yj (glF 100 b a), yj b]) (M' := M) (N' := N) rfl ?_
        refine r_ldiv f_170_53 (by omega) (by omega) ?_
        refine r_lret m_170 rfl f_170_54 ?_
        exact ⟨_, rfl, by unfold lwT; rw [if_neg (by omega)], rfl, rfl⟩
      · refine r_run 3 (pc' := 53) (ls' := [some (yj a), none, some (yj b), none, some (yi t), some (yj (glF 100 b a)), none, some (yj r2), none, l9, none]) (st' := [yj (glF 100 b a), yj a]) (M' := M) (N' := N) rfl ?_
        refine r_ldiv f_170_53 (by omega) (by omega) ?_
        refine r_lret m_170 rfl f_170_54 ?_
        exact ⟨_, rfl, by unfold lwT; rw [if_pos (by omega)], rfl, rfl⟩
  · refine r_run 1 (pc' := 8) (ls' := [some (yj a), none, some (yj b), none, some (yi t), none, none, none, none, none, none]) (st' := [yi t]) (M' := M) (N' := N) rfl ?_
    refine r_i2l f_170_8 (by omega) ?_
    refine r_lret m_170 rfl f_170_9 ?_
    refine ⟨_, rfl, ?_, rfl, rfl⟩
    unfold lwT
    rw [show a = 0 by omega, glF_no]
    split
    · rename_i h; rw [h]; exact (Int.zero_ediv _).symm
    · rw [Int.ediv_self (by omega)]; omega
noncomputable def fWager (q w t : Int) (M : YM) : Int := if (q < 0 ∨ 5 < q) ∨ (w < 0 ∨ 999 < w) ∨ (t < 0 ∨ 1 < t) ∨ nV M = 0 then -4611686018427387904 else lwT (imax 0 (imin w (nT M 6 q) + nT M q 6 + 1)) (nT M 6 q + nT M q 6 + 1) t
theorem fWager_eq {q w t : Int} {M M' : YM} (e : eqs M M') : fWager q w t M' = fWager q w t M := by
  unfold fWager
  rw [e.eV, e.eT]
theorem c_wager {S : XS} {M N : YM} {q w t : Int} (hqq : -2147483648 ≤ q ∧ q < 2147483648) (hqw : -2147483648 ≤ w ∧ w < 2147483648) (hqt : -2147483648 ≤ t ∧ t < 2147483648) (R : Rel M) : rm S 6 73 [yr 0, yi q, yi w, yi t] M N (fun r M' _ => ∃ v : Int, some (yj v) = r ∧ v = fWager q w t M ∧ eqn M M') := by
  refine ⟨xe_73, m_73, Nat.le_of_ble_eq_true rfl, ?_⟩
  refine r_run 1 (pc' := 1) (ls' := [some (yr 0), some (yi q), some (yi w), some (yi t), none, none, none]) (st' := [yi q]) (M' := M) (N' := N) rfl ?_
  refine r_static (mj := 92) (as := [yi q]) (rest := []) f_73_1 (by decide) rfl m_92 rfl rfl rfl (Nat.le_of_ble_eq_true rfl) (by omega) (c_isQ (by omega)) ?_
  rintro _ _ _ ⟨v1, rfl, hv1, rfl, rfl⟩
  refine r_if_eq (pc := 4) f_73_4 (by omega) (fun h4 => ?_) (fun h4 => ?_)
  · refine r_run 1 (pc' := 37) (ls' := [some (yr 0), some (yi q), some (yi w), some (yi t), none, none, none]) (st' := [yj (-4611686018427387904)]) (M' := M) (N' := N) rfl ?_
    refine r_lret m_73 rfl f_73_37 ?_
    exact ⟨_, rfl, by unfold fWager; rw [if_pos (by omega)], eqn.refl⟩
  · refine r_run 3 (pc' := 12) (ls' := [some (yr 0), some (yi q), some (yi w), some (yi t), none, none, none]) (st' := [yi 999, yi 0, yi w]) (M' := M) (N' := N) rfl ?_
    refine r_static (mj := 90) (as := [yi w, yi 0, yi 999]) (rest := []) f_73_12 (by decide) rfl m_90 rfl rfl rfl (Nat.le_of_ble_eq_true rfl) (by omega) (c_within (by omega) (by omega) (by omega)) ?_
    rintro _ _ _ ⟨v12, rfl, hv12, rfl, rfl⟩
    refine r_if_eq (pc := 15) f_73_15 (by omega) (fun h15 => ?_) (fun h15 => ?_)
    · refine r_run 1 (pc' := 37) (ls' := [some (yr 0), some (yi q), some (yi w), some (yi t), none, none, none]) (st' := [yj (-4611686018427387904)]) (M' := M) (N' := N) rfl ?_
      refine r_lret m_73 rfl f_73_37 ?_
      exact ⟨_, rfl, by unfold fWager; rw [if_pos (by omega)], eqn.refl⟩
    · refine r_run 3 (pc' := 21) (ls' := [some (yr 0), some (yi q), some (yi w), some (yi t), none, none, none]) (st' := [yi 1, yi 0, yi t]) (M' := M) (N' := N) rfl ?_
      refine r_static (mj := 90) (as := [yi t, yi 0, yi 1]) (rest := []) f_73_21 (by decide) rfl m_90 rfl rfl rfl (Nat.le_of_ble_eq_true rfl) (by omega) (c_within (by omega) (by omega) (by omega)) ?_
      rintro _ _ _ ⟨v21, rfl, hv21, rfl, rfl⟩
      refine r_if_eq (pc := 24) f_73_24 (by omega) (fun h24 => ?_) (fun h24 => ?_)
      · refine r_run 1 (pc' := 37) (ls' := [some (yr 0), some (yi q), some (yi w), some (yi t), none, none, none]) (st' := [yj (-4611686018427387904)]) (M' := M) (N' := N) rfl ?_
        refine r_lret m_73 rfl f_73_37 ?_
        exact ⟨_, rfl, by unfold fWager; rw [if_pos (by omega)], eqn.refl⟩
      · refine r_run 1 (pc' := 28) (ls' := [some (yr 0), some (yi q), some (yi w), some (yi t), none, none, none]) (st' := [yr 0]) (M' := M) (N' := N) rfl ?_
        refine r_virtual (mj := 97) (b := 0) (as := []) (rest := []) f_73_28 (by decide) rfl m_97 (by decide) (by decide) (by decide) rfl rfl (Nat.le_of_ble_eq_true rfl) (by omega) (c_can1 R) ?_
        rintro _ M2 _ ⟨v, rfl, ⟨hv, hv01, hat, hBE, hfr, R2, hq, hT⟩, rfl⟩
        refine r_if_ne (pc := 31) f_73_31 (by omega) (fun h31 => ?_) (fun h31 => ?_)
        · obtain ⟨t1, t2, t3, t4, t5⟩ := (hat (by omega)).1 q ⟨by omega, by omega⟩
          have e5 : nT M 6 q + nT M q 6 + 1 = M2 37 q - M2 36 q + 1 := by omega
          refine r_run 4 (pc' := 46) (ls' := [some (yr 0), some (yi q), some (yi w), some (yi t), none, none, none]) (st' := [yi q, yr 36]) (M' := M2) (N' := N) rfl ?_
          refine r_iald (n := 6) f_73_46 (by decide) (by decide) (by decide) (by omega) ?_
          refine r_run 5 (pc' := 57) (ls' := [some (yr 0), some (yi q), some (yi w), some (yi t), some (yi (M2 36 q)), none, none]) (st' := [yi q, yr 37]) (M' := M2) (N' := N) rfl ?_
          refine r_iald (n := 6) f_73_57 (by decide) (by decide) (by decide) (by omega) ?_
          refine r_run 4 (pc' := 64) (ls' := [some (yr 0), some (yi q), some (yi w), some (yi t), some (yi (M2 36 q)), some (yi (M2 37 q)), none]) (st' := [yi (M2 37 q), yi w, yi 0]) (M' := M2) (N' := N) rfl ?_
          refine r_min f_73_64 (by omega) (by omega) (Nat.le_of_ble_eq_true rfl) (by omega) (fun v64 hv64 => ?_)
          refine r_run 4 (pc' := 72) (ls' := [some (yr 0), some (yi q), some (yi w), some (yi t), some (yi (M2 36 q)), some (yi (M2 37 q)), none]) (st' := [yi ((v64 - (M2 36 q)) + 1), yi 0]) (M' := M2) (N' := N) rfl ?_
          refine r_max f_73_72 (by omega) (by omega) (Nat.le_of_ble_eq_true rfl) (by omega) (fun v72 hv72 => ?_)
          refine r_run 2 (pc' := 79) (ls' := [some (yr 0), some (yi q), some (yi w), some (yi t), some (yi (M2 36 q)), some (yi (M2 37 q)), some (yi v72)]) (st' := [yi v72]) (M' := M2) (N' := N) rfl ?_
          refine r_i2l f_73_79 (by omega) ?_
          refine r_run 5 (pc' := 87) (ls' := [some (yr 0), some (yi q), some (yi w), some (yi t), some (yi (M2 36 q)), some (yi (M2 37 q)), some (yi v72)]) (st' := [yi (((M2 37 q) - (M2 36 q)) + 1), yj v72]) (M' := M2) (N' := N) rfl ?_
          refine r_i2l f_73_87 (by omega) ?_
          refine r_run 1 (pc' := 89) (ls' := [some (yr 0), some (yi q), some (yi w), some (yi t), some (yi (M2 36 q)), some (yi (M2 37 q)), some (yi v72)]) (st' := [yi t, yj (((M2 37 q) - (M2 36 q)) + 1), yj v72]) (M' := M2) (N' := N) rfl ?_
          refine r_static (mj := 107) (as := [yj v72, yj (((M2 37 q) - (M2 36 q)) + 1), yi t]) (rest := []) f_73_89 (by decide) rfl m_107 rfl rfl rfl (Nat.le_of_ble_eq_true rfl) (by omega) ((show rm S 0 107 [yj v72, yj (((M2 37 q) - (M2 36 q)) + 1), yi t] M2 _ _ from by rw [show v72 = imax 0 (imin w (nT M 6 q) + nT M q 6 + 1) by unfold imax imin; (repeat' split) <;> omega, ← e5]; exact c_lowest (by unfold imax imin; (repeat' split) <;> omega) (by omega) (by omega))) ?_
          rintro _ _ _ ⟨vv, rfl, hvv, rfl, rfl⟩
          refine r_lret m_73 rfl f_73_92 ?_
          exact ⟨_, rfl, by unfold fWager; rw [if_neg (by omega)]; exact hvv, hq⟩
        · refine r_run 1 (pc' := 37) (ls' := [some (yr 0), some (yi q), some (yi w), some (yi t), none, none, none]) (st' := [yj (-4611686018427387904)]) (M' := M2) (N' := N) rfl ?_
          refine r_lret m_73 rfl f_73_37 ?_
          exact ⟨_, rfl, by unfold fWager; rw [if_pos (by omega)], hq⟩
theorem m_wager {S : XS} {M N : YM} {q w t : Int} (hqq : -2147483648 ≤ q ∧ q < 2147483648) (hqw : -2147483648 ≤ w ∧ w < 2147483648) (hqt : -2147483648 ≤ t ∧ t < 2147483648) (R : Rel M) : rm S 4 171 [yr 75, yi q, yi w, yi t] M N (fun r M' _ => ∃ v : Int, some (yj v) = r ∧ v = fWager q w t M ∧ eqn M M') := by
  refine ⟨xe_171, m_171, Nat.le_of_ble_eq_true rfl, ?_⟩
  refine r_run 1 (pc' := 1) (ls' := [some (yr 75), some (yi q), some (yi w), some (yi t), none]) (st' := [yi q]) (M' := M) (N' := N) rfl ?_
  refine r_static (mj := 115) (as := [yi q]) (rest := []) f_171_1 (by decide) rfl m_115 rfl rfl rfl (Nat.le_of_ble_eq_true rfl) (by omega) (m_isOne (by omega)) ?_
  rintro _ _ _ ⟨v1, rfl, hv1, rfl, rfl⟩
  refine r_if_eq (pc := 4) f_171_4 (by omega) (fun h4 => ?_) (fun h4 => ?_)
  · refine r_run 1 (pc' := 37) (ls' := [some (yr 75), some (yi q), some (yi w), some (yi t), none]) (st' := [yj (-4611686018427387904)]) (M' := M) (N' := N) rfl ?_
    refine r_lret m_171 rfl f_171_37 ?_
    exact ⟨_, rfl, by unfold fWager; rw [if_pos (by omega)], eqn.refl⟩
  · refine r_run 3 (pc' := 12) (ls' := [some (yr 75), some (yi q), some (yi w), some (yi t), none]) (st' := [yi 999, yi 0, yi w]) (M' := M) (N' := N) rfl ?_
    refine r_static (mj := 112) (as := [yi w, yi 0, yi 999]) (rest := []) f_171_12 (by decide) rfl m_112 rfl rfl rfl (Nat.le_of_ble_eq_true rfl) (by omega) (m_in (by omega) (by omega) (by omega)) ?_
    rintro _ _ _ ⟨v12, rfl, hv12, rfl, rfl⟩
    refine r_if_eq (pc := 15) f_171_15 (by omega) (fun h15 => ?_) (fun h15 => ?_)
    · refine r_run 1 (pc' := 37) (ls' := [some (yr 75), some (yi q), some (yi w), some (yi t), none]) (st' := [yj (-4611686018427387904)]) (M' := M) (N' := N) rfl ?_
      refine r_lret m_171 rfl f_171_37 ?_
      exact ⟨_, rfl, by unfold fWager; rw [if_pos (by omega)], eqn.refl⟩
    · refine r_run 3 (pc' := 21) (ls' := [some (yr 75), some (yi q), some (yi w), some (yi t), none]) (st' := [yi 1, yi 0, yi t]) (M' := M) (N' := N) rfl ?_
      refine r_static (mj := 112) (as := [yi t, yi 0, yi 1]) (rest := []) f_171_21 (by decide) rfl m_112 rfl rfl rfl (Nat.le_of_ble_eq_true rfl) (by omega) (m_in (by omega) (by omega) (by omega)) ?_
      rintro _ _ _ ⟨v21, rfl, hv21, rfl, rfl⟩
      refine r_if_eq (pc := 24) f_171_24 (by omega) (fun h24 => ?_) (fun h24 => ?_)
      · refine r_run 1 (pc' := 37) (ls' := [some (yr 75), some (yi q), some (yi w), some (yi t), none]) (st' := [yj (-4611686018427387904)]) (M' := M) (N' := N) rfl ?_
        refine r_lret m_171 rfl f_171_37 ?_
        exact ⟨_, rfl, by unfold fWager; rw [if_pos (by omega)], eqn.refl⟩
      · refine r_run 1 (pc' := 28) (ls' := [some (yr 75), some (yi q), some (yi w), some (yi t), none]) (st' := [yr 75]) (M' := M) (N' := N) rfl ?_
        refine r_virtual (mj := 148) (b := 75) (as := []) (rest := []) f_171_28 (by decide) rfl m_148 (by decide) (by decide) (by decide) rfl rfl (Nat.le_of_ble_eq_true rfl) (by omega) (m_can1 R) ?_
        rintro _ M2 _ ⟨v, rfl, ⟨hv, hv01, hat, hBE, hfr, R2, hq⟩, rfl⟩
        refine r_if_ne (pc := 31) f_171_31 (by omega) (fun h31 => ?_) (fun h31 => ?_)
        · obtain ⟨t1, t2, -⟩ := hat (by omega)
          have t3 := t2 q ⟨by omega, by omega⟩
          have a1 := t1 q 6 (by omega) (by omega) (by omega) (by omega)
          have a2 := t1 6 q (by omega) (by omega) (by omega) (by omega)
          rw [show 7 * 6 + q = 42 + q by omega] at a2
          refine r_run 2 (pc' := 40) (ls' := [some (yr 75), some (yi q), some (yi w), some (yi t), none]) (st' := [yi q, yr 75]) (M' := M2) (N' := N) rfl ?_
          refine r_virtual (mj := 150) (b := 75) (as := [yi q]) (rest := []) f_171_40 (by decide) rfl m_150 (by decide) (by decide) (by decide) rfl rfl (Nat.le_of_ble_eq_true rfl) (by omega) (m_high (by omega)) ?_
          rintro _ _ _ ⟨v40, rfl, hv40, rfl, rfl⟩
          refine r_run 2 (pc' := 45) (ls' := [some (yr 75), some (yi q), some (yi w), some (yi t), none]) (st' := [yi q, yr 75, yi v40]) (M' := M2) (N' := N) rfl ?_
          refine r_virtual (mj := 149) (b := 75) (as := [yi q]) (rest := [yi v40]) f_171_45 (by decide) rfl m_149 (by decide) (by decide) (by decide) rfl rfl (Nat.le_of_ble_eq_true rfl) (by omega) (m_low (by omega)) ?_
          rintro _ _ _ ⟨v45, rfl, hv45, rfl, rfl⟩
          refine r_run 7 (pc' := 56) (ls' := [some (yr 75), some (yi q), some (yi w), some (yi t), some (yi ((v40 - v45) + 1))]) (st' := [yi q, yr 75, yi w]) (M' := M2) (N' := N) rfl ?_
          refine r_virtual (mj := 149) (b := 75) (as := [yi q]) (rest := [yi w]) f_171_56 (by decide) rfl m_149 (by decide) (by decide) (by decide) rfl rfl (Nat.le_of_ble_eq_true rfl) (by omega) (m_low (by omega)) ?_
          rintro _ _ _ ⟨v56, rfl, hv56, rfl, rfl⟩
          refine r_run 5 (pc' := 65) (ls' := [some (yr 75), some (yi q), some (yi w), some (yi t), some (yi ((v40 - v45) + 1))]) (st' := [yi ((v40 - v45) + 1), yi 0, yi ((w - v56) + 1)]) (M' := M2) (N' := N) rfl ?_
          refine r_static (mj := 113) (as := [yi ((w - v56) + 1), yi 0, yi ((v40 - v45) + 1)]) (rest := []) f_171_65 (by decide) rfl m_113 rfl rfl rfl (Nat.le_of_ble_eq_true rfl) (by omega) (m_within (by omega) (by omega) (by omega)) ?_
          rintro _ _ _ ⟨v65, rfl, hv65, rfl, rfl⟩
          refine r_i2l f_171_68 (by omega) ?_
          refine r_run 1 (pc' := 71) (ls' := [some (yr 75), some (yi q), some (yi w), some (yi t), some (yi ((v40 - v45) + 1))]) (st' := [yi ((v40 - v45) + 1), yj v65]) (M' := M2) (N' := N) rfl ?_
          refine r_i2l f_171_71 (by omega) ?_
          refine r_run 1 (pc' := 73) (ls' := [some (yr 75), some (yi q), some (yi w), some (yi t), some (yi ((v40 - v45) + 1))]) (st' := [yi t, yj ((v40 - v45) + 1), yj v65]) (M' := M2) (N' := N) rfl ?_
          refine r_static (mj := 170) (as := [yj v65, yj ((v40 - v45) + 1), yi t]) (rest := []) f_171_73 (by decide) rfl m_170 rfl rfl rfl (Nat.le_of_ble_eq_true rfl) (by omega) ((show rm S 0 170 [yj v65, yj ((v40 - v45) + 1), yi t] M2 _ _ from by rw [show v65 = imax 0 (imin w (nT M 6 q) + nT M q 6 + 1) by unfold imax imin; (repeat' split) <;> omega, show v40 - v45 + 1 = nT M 6 q + nT M q 6 + 1 by omega]; exact m_lowest (by unfold imax imin; (repeat' split) <;> omega) (by omega) (by omega))) ?_
          rintro _ _ _ ⟨vv, rfl, hvv, rfl, rfl⟩
          refine r_lret m_171 rfl f_171_76 ?_
          exact ⟨_, rfl, by unfold fWager; rw [if_neg (by omega)]; exact hvv, hq⟩
        · refine r_run 1 (pc' := 37) (ls' := [some (yr 75), some (yi q), some (yi w), some (yi t), none]) (st' := [yj (-4611686018427387904)]) (M' := M2) (N' := N) rfl ?_
          refine r_lret m_171 rfl f_171_37 ?_
          exact ⟨_, rfl, by unfold fWager; rw [if_pos (by omega)], hq⟩
theorem p_wager {S : XS} {M N : YM} {q w t : Int} (hqq : -2147483648 ≤ q ∧ q < 2147483648) (hqw : -2147483648 ≤ w ∧ w < 2147483648) (hqt : -2147483648 ≤ t ∧ t < 2147483648) (R : Rel M) : prl S 73 171 [yi q, yi w, yi t] M N := prl_q (fWager q w t) (rm_deep (by decide) (c_wager hqq hqw hqt R)) (fun M N R => rm_deep (by decide) (m_wager hqq hqw hqt R)) (fun M' _ e => fWager_eq e.eqs) R
def lsT (lb hb x : Int) : Int := imax 0 (hb - imax (x + 1) lb + 1)
def lsF (lb hb : Int) : Nat → Int → Int → Int
  | 0, _, a => a
  | j + 1, x, a => lsF lb hb j (x + 1) (a + lsT lb hb x)
theorem lsT_in {lb hb x : Int} (h : lb ≤ hb) : 0 ≤ lsT lb hb x ∧ lsT lb hb x ≤ hb - lb + 1 := by
  unfold lsT imax
  (repeat' split) <;> omega
theorem lsF_in {lb hb : Int} (h : lb ≤ hb) {j : Nat} : ∀ {x a : Int}, a ≤ lsF lb hb j x a ∧ lsF lb hb j x a ≤ a + j * (hb - lb + 1) := by
  induction j with
  | zero => intro x a; exact ⟨Int.le_refl _, by show a ≤ a + ((0 : Nat) : Int) * _; rw [show ((0 : Nat) : Int) = 0 from rfl, Int.zero_mul, Int.add_zero]; exact Int.le_refl _⟩
  | succ j ih =>
    intro x a
    have h1 := lsT_in (x := x) h
    have h2 := @ih (x + 1) (a + lsT lb hb x)
    have h3 : ((j + 1 : Nat) : Int) * (hb - lb + 1) = j * (hb - lb + 1) + (hb - lb + 1) := by rw [Int.natCast_add, Int.add_mul]; show _ + 1 * _ = _; rw [Int.one_mul]
    rw [h3]
    show a ≤ lsF lb hb j (x + 1) (a + lsT lb hb x) ∧ lsF lb hb j (x + 1) (a + lsT lb hb x) ≤ _
    omega
noncomputable def fLess (a b t : Int) (M : YM) : Int := if (a < 0 ∨ 5 < a) ∨ (b < 0 ∨ 5 < b) ∨ a = b ∨ (t < 0 ∨ 1 < t) ∨ nV M = 0 then -4611686018427387904 else lwT (lsF (-nT M b 6) (nT M 6 b) (nT M 6 a + nT M a 6 + 1).toNat (-nT M a 6) 0) ((nT M 6 a + nT M a 6 + 1) * (nT M 6 b + nT M b 6 + 1)) t
theorem fLess_eq {a b t : Int} {M M' : YM} (e : eqs M M') : fLess a b t M' = fLess a b t M := by
  unfold fLess
  rw [e.eV, e.eT]
theorem less_in {x y la ha lb hb : Int} (h : 0 ≤ la ∧ la ≤ ha ∧ ha ≤ 999) (g : 0 ≤ lb ∧ lb ≤ hb ∧ hb ≤ 999) (hx : x = ha - la + 1) (hy : y = hb - lb + 1) : (0 ≤ lsF lb hb x.toNat la 0 ∧ lsF lb hb x.toNat la 0 ≤ x * y) ∧ 1 ≤ x * y ∧ x * y ≤ 1000000000000 := by
  have h1 := @lsF_in lb hb g.2.1 x.toNat la 0
  rw [show ((x.toNat : Nat) : Int) = x by omega, ← hy] at h1
  have h2 : 1 * 1 ≤ x * y := Int.mul_le_mul (by omega) (by omega) (by omega) (by omega)
  have h3 : x * y ≤ 1000 * 1000 := Int.mul_le_mul (by omega) (by omega) (by omega) (by omega)
  omega
theorem c_less_l {S : XS} {d : Nat} {a b t y : Int} {M N : YM} {Q : Option YV → YM → YM → Prop} (hd : 1 ≤ d) (ha : in6 a) (hb : in6 b) (hA : 0 ≤ M 36 a ∧ M 36 a ≤ M 37 a ∧ M 37 a ≤ 999) (hB : 0 ≤ M 36 b ∧ M 36 b ≤ M 37 b ∧ M 37 b ≤ 999) (hy : y = M 37 a + 1) {j : Nat} : ∀ {x z : Int}, M 36 a ≤ x → x + j = y → ry S d 74 111 [some (yr 0), some (yi a), some (yi b), some (yi t), some (yj (lsF (M 36 b) (M 37 b) j x z)), none, some (yi y)] [] M N Q → ry S d 74 53 [some (yr 0), some (yi a), some (yi b), some (yi t), some (yj z), none, some (yi x)] [] M N Q := by
  induction j with
  | zero =>
    intro x z h0 h1 kk
    refine r_run 5 (pc' := 63) (ls' := [some (yr 0), some (yi a), some (yi b), some (yi t), some (yj z), none, some (yi x)]) (st' := [yi a, yr 37, yi x]) (M' := M) (N' := N) rfl ?_
    refine r_iald (n := 6) f_74_63 (by decide) (by decide) (by decide) (by omega) ?_
    refine r_icmp_gt (pc := 64) f_74_64 (by omega) (by omega) (fun h64 => ?_) (fun h64 => ?_)
    · rw [show x = y by omega]
      exact kk
    · exfalso; omega
  | succ j ih =>
    intro x z h0 h1 kk
    refine r_run 5 (pc' := 63) (ls' := [some (yr 0), some (yi a), some (yi b), some (yi t), some (yj z), none, some (yi x)]) (st' := [yi a, yr 37, yi x]) (M' := M) (N' := N) rfl ?_
    refine r_iald (n := 6) f_74_63 (by decide) (by decide) (by decide) (by omega) ?_
    refine r_icmp_gt (pc := 64) f_74_64 (by omega) (by omega) (fun h64 => ?_) (fun h64 => ?_)
    · exfalso; omega
    · refine r_run 6 (pc' := 78) (ls' := [some (yr 0), some (yi a), some (yi b), some (yi t), some (yj z), none, some (yi x)]) (st' := [yi b, yr 37, yi 0, yj z]) (M' := M) (N' := N) rfl ?_
      refine r_iald (n := 6) f_74_78 (by decide) (by decide) (by decide) (by omega) ?_
      refine r_run 7 (pc' := 91) (ls' := [some (yr 0), some (yi a), some (yi b), some (yi t), some (yj z), none, some (yi x)]) (st' := [yi b, yr 36, yi (x + 1), yi (M 37 b), yi 0, yj z]) (M' := M) (N' := N) rfl ?_
      refine r_iald (n := 6) f_74_91 (by decide) (by decide) (by decide) (by omega) ?_
      refine r_max f_74_92 (by omega) (by omega) (Nat.le_of_ble_eq_true rfl) (by omega) (fun v92 hv92 => ?_)
      refine r_run 3 (pc' := 98) (ls' := [some (yr 0), some (yi a), some (yi b), some (yi t), some (yj z), none, some (yi x)]) (st' := [yi (((M 37 b) - v92) + 1), yi 0, yj z]) (M' := M) (N' := N) rfl ?_
      refine r_max f_74_98 (by omega) (by omega) (Nat.le_of_ble_eq_true rfl) (by omega) (fun v98 hv98 => ?_)
      refine r_i2l f_74_101 (by omega) ?_
      refine r_run 4 (pc' := 53) (ls' := [some (yr 0), some (yi a), some (yi b), some (yi t), some (yj (z + v98)), none, some (yi (x + 1))]) (st' := []) (M' := M) (N' := N) rfl ?_
      have e : v98 = lsT (M 36 b) (M 37 b) x := by
        unfold lsT imax
        (repeat' split) <;> omega
      rw [e]
      exact ih (by omega) (by omega) kk
theorem c_size {S : XS} {M N : YM} {q : Int} (hq : in6 q) : rm S 0 40 [yr 33, yi q] M N (fun r M' N' => ∃ v : Int, some (yi v) = r ∧ (v = M 37 q - M 36 q + 1) ∧ M = M' ∧ N = N') := by
  refine ⟨xe_40, m_40, Nat.le_of_ble_eq_true rfl, ?_⟩
  refine r_run 3 (pc' := 5) (ls' := [some (yr 33), some (yi q)]) (st' := [yi q, yr 37]) (M' := M) (N' := N) rfl ?_
  refine r_iald (n := 6) f_40_5 (by decide) (by decide) (by decide) (by omega) ?_
  refine r_run 3 (pc' := 11) (ls' := [some (yr 33), some (yi q)]) (st' := [yi q, yr 36, yi (M 37 q)]) (M' := M) (N' := N) rfl ?_
  refine r_iald (n := 6) f_40_11 (by decide) (by decide) (by decide) (by omega) ?_
  refine r_run 3 (pc' := 15) (ls' := [some (yr 33), some (yi q)]) (st' := [yi (((M 37 q) - (M 36 q)) + 1)]) (M' := M) (N' := N) rfl ?_
  refine r_iret m_40 rfl f_40_15 ?_
  exact ⟨_, rfl, rfl, rfl, rfl⟩
theorem c_less {S : XS} {M N : YM} {a b t : Int} (hqa : -2147483648 ≤ a ∧ a < 2147483648) (hqb : -2147483648 ≤ b ∧ b < 2147483648) (hqt : -2147483648 ≤ t ∧ t < 2147483648) (R : Rel M) : rm S 6 74 [yr 0, yi a, yi b, yi t] M N (fun r M' _ => ∃ v : Int, some (yj v) = r ∧ v = fLess a b t M ∧ eqn M M') := by
  refine ⟨xe_74, m_74, Nat.le_of_ble_eq_true rfl, ?_⟩
  refine r_run 1 (pc' := 1) (ls' := [some (yr 0), some (yi a), some (yi b), some (yi t), none, none, none]) (st' := [yi a]) (M' := M) (N' := N) rfl ?_
  refine r_static (mj := 92) (as := [yi a]) (rest := []) f_74_1 (by decide) rfl m_92 rfl rfl rfl (Nat.le_of_ble_eq_true rfl) (by omega) (c_isQ (by omega)) ?_
  rintro _ _ _ ⟨v1, rfl, hv1, rfl, rfl⟩
  refine r_if_eq (pc := 4) f_74_4 (by omega) (fun h4 => ?_) (fun h4 => ?_)
  · refine r_run 1 (pc' := 38) (ls' := [some (yr 0), some (yi a), some (yi b), some (yi t), none, none, none]) (st' := [yj (-4611686018427387904)]) (M' := M) (N' := N) rfl ?_
    refine r_lret m_74 rfl f_74_38 ?_
    exact ⟨_, rfl, by unfold fLess; rw [if_pos (by omega)], eqn.refl⟩
  · refine r_run 1 (pc' := 8) (ls' := [some (yr 0), some (yi a), some (yi b), some (yi t), none, none, none]) (st' := [yi b]) (M' := M) (N' := N) rfl ?_
    refine r_static (mj := 92) (as := [yi b]) (rest := []) f_74_8 (by decide) rfl m_92 rfl rfl rfl (Nat.le_of_ble_eq_true rfl) (by omega) (c_isQ (by omega)) ?_
    rintro _ _ _ ⟨v8, rfl, hv8, rfl, rfl⟩
    refine r_if_eq (pc := 11) f_74_11 (by omega) (fun h11 => ?_) (fun h11 => ?_)
    · refine r_run 1 (pc' := 38) (ls' := [some (yr 0), some (yi a), some (yi b), some (yi t), none, none, none]) (st' := [yj (-4611686018427387904)]) (M' := M) (N' := N) rfl ?_
      refine r_lret m_74 rfl f_74_38 ?_
      exact ⟨_, rfl, by unfold fLess; rw [if_pos (by omega)], eqn.refl⟩
    · refine r_run 2 (pc' := 16) (ls' := [some (yr 0), some (yi a), some (yi b), some (yi t), none, none, none]) (st' := [yi b, yi a]) (M' := M) (N' := N) rfl ?_
      refine r_icmp_eq (pc := 16) f_74_16 (by omega) (by omega) (fun h16 => ?_) (fun h16 => ?_)
      · refine r_run 1 (pc' := 38) (ls' := [some (yr 0), some (yi a), some (yi b), some (yi t), none, none, none]) (st' := [yj (-4611686018427387904)]) (M' := M) (N' := N) rfl ?_
        refine r_lret m_74 rfl f_74_38 ?_
        exact ⟨_, rfl, by unfold fLess; rw [if_pos (by omega)], eqn.refl⟩
      · refine r_run 3 (pc' := 22) (ls' := [some (yr 0), some (yi a), some (yi b), some (yi t), none, none, none]) (st' := [yi 1, yi 0, yi t]) (M' := M) (N' := N) rfl ?_
        refine r_static (mj := 90) (as := [yi t, yi 0, yi 1]) (rest := []) f_74_22 (by decide) rfl m_90 rfl rfl rfl (Nat.le_of_ble_eq_true rfl) (by omega) (c_within (by omega) (by omega) (by omega)) ?_
        rintro _ _ _ ⟨v22, rfl, hv22, rfl, rfl⟩
        refine r_if_eq (pc := 25) f_74_25 (by omega) (fun h25 => ?_) (fun h25 => ?_)
        · refine r_run 1 (pc' := 38) (ls' := [some (yr 0), some (yi a), some (yi b), some (yi t), none, none, none]) (st' := [yj (-4611686018427387904)]) (M' := M) (N' := N) rfl ?_
          refine r_lret m_74 rfl f_74_38 ?_
          exact ⟨_, rfl, by unfold fLess; rw [if_pos (by omega)], eqn.refl⟩
        · refine r_run 1 (pc' := 29) (ls' := [some (yr 0), some (yi a), some (yi b), some (yi t), none, none, none]) (st' := [yr 0]) (M' := M) (N' := N) rfl ?_
          refine r_virtual (mj := 97) (b := 0) (as := []) (rest := []) f_74_29 (by decide) rfl m_97 (by decide) (by decide) (by decide) rfl rfl (Nat.le_of_ble_eq_true rfl) (by omega) (c_can1 R) ?_
          rintro _ M2 _ ⟨v, rfl, ⟨hv, hv01, hat, hBE, hfr, R2, hq, hT⟩, rfl⟩
          refine r_if_ne (pc := 32) f_74_32 (by omega) (fun h32 => ?_) (fun h32 => ?_)
          · refine r_run 6 (pc' := 50) (ls' := [some (yr 0), some (yi a), some (yi b), some (yi t), some (yj 0), none, none]) (st' := [yi a, yr 36]) (M' := M2) (N' := N) rfl ?_
            refine r_iald (n := 6) f_74_50 (by decide) (by decide) (by decide) (by omega) ?_
            refine r_run 1 (pc' := 53) (ls' := [some (yr 0), some (yi a), some (yi b), some (yi t), some (yj 0), none, some (yi (M2 36 a))]) (st' := []) (M' := M2) (N' := N) rfl ?_
            obtain ⟨t1, t2, t3, t4, t5⟩ := (hat (by omega)).1 a ⟨by omega, by omega⟩
            obtain ⟨u1, u2, u3, u4, u5⟩ := (hat (by omega)).1 b ⟨by omega, by omega⟩
            refine c_less_l (y := M2 37 a + 1) (j := (nT M 6 a + nT M a 6 + 1).toNat) (by omega) ⟨by omega, by omega⟩ ⟨by omega, by omega⟩ (by omega) (by omega) rfl (Int.le_refl _) (by omega) ?_
            rw [u1, u2, t1]
            have hin := less_in (x := nT M 6 a + nT M a 6 + 1) (y := nT M 6 b + nT M b 6 + 1) (la := -nT M a 6) (ha := nT M 6 a) (lb := -nT M b 6) (hb := nT M 6 b) (by omega) (by omega) (by omega) (by omega)
            refine r_run 4 (pc' := 118) (ls' := [some (yr 0), some (yi a), some (yi b), some (yi t), some (yj (lsF (-nT M b 6) (nT M 6 b) (nT M 6 a + nT M a 6 + 1).toNat (-nT M a 6) 0)), none, some (yi (M2 37 a + 1))]) (st' := [yi a, yr 33, yj (lsF (-nT M b 6) (nT M 6 b) (nT M 6 a + nT M a 6 + 1).toNat (-nT M a 6) 0)]) (M' := M2) (N' := N) rfl ?_
            refine r_virtual (mj := 40) (b := 33) (as := [yi a]) (rest := [yj (lsF (-nT M b 6) (nT M 6 b) (nT M 6 a + nT M a 6 + 1).toNat (-nT M a 6) 0)]) f_74_118 (by decide) rfl m_40 (by decide) (by decide) (by decide) rfl rfl (Nat.le_of_ble_eq_true rfl) (by omega) (c_size (by omega)) ?_
            rintro _ _ _ ⟨v118, rfl, hv118, rfl, rfl⟩
            refine r_i2l f_74_121 (by omega) ?_
            refine r_run 3 (pc' := 127) (ls' := [some (yr 0), some (yi a), some (yi b), some (yi t), some (yj (lsF (-nT M b 6) (nT M 6 b) (nT M 6 a + nT M a 6 + 1).toNat (-nT M a 6) 0)), none, some (yi (M2 37 a + 1))]) (st' := [yi b, yr 33, yj v118, yj (lsF (-nT M b 6) (nT M 6 b) (nT M 6 a + nT M a 6 + 1).toNat (-nT M a 6) 0)]) (M' := M2) (N' := N) rfl ?_
            refine r_virtual (mj := 40) (b := 33) (as := [yi b]) (rest := [yj v118, yj (lsF (-nT M b 6) (nT M 6 b) (nT M 6 a + nT M a 6 + 1).toNat (-nT M a 6) 0)]) f_74_127 (by decide) rfl m_40 (by decide) (by decide) (by decide) rfl rfl (Nat.le_of_ble_eq_true rfl) (by omega) (c_size (by omega)) ?_
            rintro _ _ _ ⟨v127, rfl, hv127, rfl, rfl⟩
            refine r_i2l f_74_130 (by omega) ?_
            refine r_run 2 (pc' := 133) (ls' := [some (yr 0), some (yi a), some (yi b), some (yi t), some (yj (lsF (-nT M b 6) (nT M 6 b) (nT M 6 a + nT M a 6 + 1).toNat (-nT M a 6) 0)), none, some (yi (M2 37 a + 1))]) (st' := [yi t, yj (v118 * v127), yj (lsF (-nT M b 6) (nT M 6 b) (nT M 6 a + nT M a 6 + 1).toNat (-nT M a 6) 0)]) (M' := M2) (N' := N) rfl ?_
            refine r_static (mj := 107) (as := [yj (lsF (-nT M b 6) (nT M 6 b) (nT M 6 a + nT M a 6 + 1).toNat (-nT M a 6) 0), yj (v118 * v127), yi t]) (rest := []) f_74_133 (by decide) rfl m_107 rfl rfl rfl (Nat.le_of_ble_eq_true rfl) (by omega) ((show rm S 0 107 [yj (lsF (-nT M b 6) (nT M 6 b) (nT M 6 a + nT M a 6 + 1).toNat (-nT M a 6) 0), yj (v118 * v127), yi t] M2 _ _ from by rw [hv118, hv127, show M2 37 a - M2 36 a + 1 = nT M 6 a + nT M a 6 + 1 by omega, show M2 37 b - M2 36 b + 1 = nT M 6 b + nT M b 6 + 1 by omega]; exact c_lowest hin.1 hin.2 (by omega))) ?_
            rintro _ _ _ ⟨vv, rfl, hvv, rfl, rfl⟩
            refine r_lret m_74 rfl f_74_136 ?_
            exact ⟨_, rfl, by unfold fLess; rw [if_neg (by omega)]; exact hvv, hq⟩
          · refine r_run 1 (pc' := 38) (ls' := [some (yr 0), some (yi a), some (yi b), some (yi t), none, none, none]) (st' := [yj (-4611686018427387904)]) (M' := M2) (N' := N) rfl ?_
            refine r_lret m_74 rfl f_74_38 ?_
            exact ⟨_, rfl, by unfold fLess; rw [if_pos (by omega)], hq⟩
theorem m_less_l {S : XS} {d : Nat} {a b t y m la ha lb hb : Int} {M N : YM} {Q : Option YV → YM → YM → Prop} (hd : 1 ≤ d) (ha' : in6 a) (hb' : in6 b) (hA : 0 ≤ la ∧ la ≤ ha ∧ ha ≤ 999) (hB : 0 ≤ lb ∧ lb ≤ hb ∧ hb ≤ 999) (eA : M 92 (42 + a) = ha) (eB : M 92 (42 + b) = hb) (hm : m = hb - lb + 1) (hy : y = ha + 1) {j : Nat} : ∀ {x z : Int}, la ≤ x → x + j = y → ry S d 172 100 [some (yr 75), some (yi a), some (yi b), some (yi t), some (yi m), some (yj (lsF lb hb j x z)), none, some (yi y)] [] M N Q → ry S d 172 64 [some (yr 75), some (yi a), some (yi b), some (yi t), some (yi m), some (yj z), none, some (yi x)] [] M N Q := by
  induction j with
  | zero =>
    intro x z h0 h1 kk
    refine r_run 3 (pc' := 68) (ls' := [some (yr 75), some (yi a), some (yi b), some (yi t), some (yi m), some (yj z), none, some (yi x)]) (st' := [yi a, yr 75, yi x]) (M' := M) (N' := N) rfl ?_
    refine r_virtual (mj := 150) (b := 75) (as := [yi a]) (rest := [yi x]) f_172_68 (by decide) rfl m_150 (by decide) (by decide) (by decide) rfl rfl (Nat.le_of_ble_eq_true rfl) (by omega) (m_high (by omega)) ?_
    rintro _ _ _ ⟨v68, rfl, hv68, rfl, rfl⟩
    refine r_icmp_gt (pc := 71) f_172_71 (by omega) (by omega) (fun h71 => ?_) (fun h71 => ?_)
    · rw [show x = y by omega]
      exact kk
    · exfalso; omega
  | succ j ih =>
    intro x z h0 h1 kk
    refine r_run 3 (pc' := 68) (ls' := [some (yr 75), some (yi a), some (yi b), some (yi t), some (yi m), some (yj z), none, some (yi x)]) (st' := [yi a, yr 75, yi x]) (M' := M) (N' := N) rfl ?_
    refine r_virtual (mj := 150) (b := 75) (as := [yi a]) (rest := [yi x]) f_172_68 (by decide) rfl m_150 (by decide) (by decide) (by decide) rfl rfl (Nat.le_of_ble_eq_true rfl) (by omega) (m_high (by omega)) ?_
    rintro _ _ _ ⟨v68, rfl, hv68, rfl, rfl⟩
    refine r_icmp_gt (pc := 71) f_172_71 (by omega) (by omega) (fun h71 => ?_) (fun h71 => ?_)
    · exfalso; omega
    · refine r_run 3 (pc' := 78) (ls' := [some (yr 75), some (yi a), some (yi b), some (yi t), some (yi m), some (yj z), none, some (yi x)]) (st' := [yi b, yr 75, yj z]) (M' := M) (N' := N) rfl ?_
      refine r_virtual (mj := 150) (b := 75) (as := [yi b]) (rest := [yj z]) f_172_78 (by decide) rfl m_150 (by decide) (by decide) (by decide) rfl rfl (Nat.le_of_ble_eq_true rfl) (by omega) (m_high (by omega)) ?_
      rintro _ _ _ ⟨v78, rfl, hv78, rfl, rfl⟩
      refine r_run 4 (pc' := 87) (ls' := [some (yr 75), some (yi a), some (yi b), some (yi t), some (yi m), some (yj z), none, some (yi x)]) (st' := [yi m, yi 0, yi (v78 - x), yj z]) (M' := M) (N' := N) rfl ?_
      refine r_static (mj := 113) (as := [yi (v78 - x), yi 0, yi m]) (rest := [yj z]) f_172_87 (by decide) rfl m_113 rfl rfl rfl (Nat.le_of_ble_eq_true rfl) (by omega) (m_within (by omega) (by omega) (by omega)) ?_
      rintro _ _ _ ⟨v87, rfl, hv87, rfl, rfl⟩
      refine r_i2l f_172_90 (by omega) ?_
      refine r_run 4 (pc' := 64) (ls' := [some (yr 75), some (yi a), some (yi b), some (yi t), some (yi m), some (yj (z + v87)), none, some (yi (x + 1))]) (st' := []) (M' := M) (N' := N) rfl ?_
      have e : v87 = lsT lb hb x := by
        unfold lsT imax
        (repeat' split) <;> omega
      rw [e]
      exact ih (by omega) (by omega) kk
theorem m_less {S : XS} {M N : YM} {a b t : Int} (hqa : -2147483648 ≤ a ∧ a < 2147483648) (hqb : -2147483648 ≤ b ∧ b < 2147483648) (hqt : -2147483648 ≤ t ∧ t < 2147483648) (R : Rel M) : rm S 4 172 [yr 75, yi a, yi b, yi t] M N (fun r M' _ => ∃ v : Int, some (yj v) = r ∧ v = fLess a b t M ∧ eqn M M') := by
  refine ⟨xe_172, m_172, Nat.le_of_ble_eq_true rfl, ?_⟩
  refine r_run 1 (pc' := 1) (ls' := [some (yr 75), some (yi a), some (yi b), some (yi t), none, none, none, none]) (st' := [yi a]) (M' := M) (N' := N) rfl ?_
  refine r_static (mj := 115) (as := [yi a]) (rest := []) f_172_1 (by decide) rfl m_115 rfl rfl rfl (Nat.le_of_ble_eq_true rfl) (by omega) (m_isOne (by omega)) ?_
  rintro _ _ _ ⟨v1, rfl, hv1, rfl, rfl⟩
  refine r_if_eq (pc := 4) f_172_4 (by omega) (fun h4 => ?_) (fun h4 => ?_)
  · refine r_run 1 (pc' := 38) (ls' := [some (yr 75), some (yi a), some (yi b), some (yi t), none, none, none, none]) (st' := [yj (-4611686018427387904)]) (M' := M) (N' := N) rfl ?_
    refine r_lret m_172 rfl f_172_38 ?_
    exact ⟨_, rfl, by unfold fLess; rw [if_pos (by omega)], eqn.refl⟩
  · refine r_run 1 (pc' := 8) (ls' := [some (yr 75), some (yi a), some (yi b), some (yi t), none, none, none, none]) (st' := [yi b]) (M' := M) (N' := N) rfl ?_
    refine r_static (mj := 115) (as := [yi b]) (rest := []) f_172_8 (by decide) rfl m_115 rfl rfl rfl (Nat.le_of_ble_eq_true rfl) (by omega) (m_isOne (by omega)) ?_
    rintro _ _ _ ⟨v8, rfl, hv8, rfl, rfl⟩
    refine r_if_eq (pc := 11) f_172_11 (by omega) (fun h11 => ?_) (fun h11 => ?_)
    · refine r_run 1 (pc' := 38) (ls' := [some (yr 75), some (yi a), some (yi b), some (yi t), none, none, none, none]) (st' := [yj (-4611686018427387904)]) (M' := M) (N' := N) rfl ?_
      refine r_lret m_172 rfl f_172_38 ?_
      exact ⟨_, rfl, by unfold fLess; rw [if_pos (by omega)], eqn.refl⟩
    · refine r_run 2 (pc' := 16) (ls' := [some (yr 75), some (yi a), some (yi b), some (yi t), none, none, none, none]) (st' := [yi b, yi a]) (M' := M) (N' := N) rfl ?_
      refine r_icmp_eq (pc := 16) f_172_16 (by omega) (by omega) (fun h16 => ?_) (fun h16 => ?_)
      · refine r_run 1 (pc' := 38) (ls' := [some (yr 75), some (yi a), some (yi b), some (yi t), none, none, none, none]) (st' := [yj (-4611686018427387904)]) (M' := M) (N' := N) rfl ?_
        refine r_lret m_172 rfl f_172_38 ?_
        exact ⟨_, rfl, by unfold fLess; rw [if_pos (by omega)], eqn.refl⟩
      · refine r_run 3 (pc' := 22) (ls' := [some (yr 75), some (yi a), some (yi b), some (yi t), none, none, none, none]) (st' := [yi 1, yi 0, yi t]) (M' := M) (N' := N) rfl ?_
        refine r_static (mj := 112) (as := [yi t, yi 0, yi 1]) (rest := []) f_172_22 (by decide) rfl m_112 rfl rfl rfl (Nat.le_of_ble_eq_true rfl) (by omega) (m_in (by omega) (by omega) (by omega)) ?_
        rintro _ _ _ ⟨v22, rfl, hv22, rfl, rfl⟩
        refine r_if_eq (pc := 25) f_172_25 (by omega) (fun h25 => ?_) (fun h25 => ?_)
        · refine r_run 1 (pc' := 38) (ls' := [some (yr 75), some (yi a), some (yi b), some (yi t), none, none, none, none]) (st' := [yj (-4611686018427387904)]) (M' := M) (N' := N) rfl ?_
          refine r_lret m_172 rfl f_172_38 ?_
          exact ⟨_, rfl, by unfold fLess; rw [if_pos (by omega)], eqn.refl⟩
        · refine r_run 1 (pc' := 29) (ls' := [some (yr 75), some (yi a), some (yi b), some (yi t), none, none, none, none]) (st' := [yr 75]) (M' := M) (N' := N) rfl ?_
          refine r_virtual (mj := 148) (b := 75) (as := []) (rest := []) f_172_29 (by decide) rfl m_148 (by decide) (by decide) (by decide) rfl rfl (Nat.le_of_ble_eq_true rfl) (by omega) (m_can1 R) ?_
          rintro _ M2 _ ⟨v, rfl, ⟨hv, hv01, hat, hBE, hfr, R2, hq⟩, rfl⟩
          refine r_if_ne (pc := 32) f_172_32 (by omega) (fun h32 => ?_) (fun h32 => ?_)
          · obtain ⟨t1, t2, -⟩ := hat (by omega)
            have t3 := t2 a ⟨by omega, by omega⟩
            have t4 := t2 b ⟨by omega, by omega⟩
            have a1 := t1 a 6 (by omega) (by omega) (by omega) (by omega)
            have a2 := t1 6 a (by omega) (by omega) (by omega) (by omega)
            have b1 := t1 b 6 (by omega) (by omega) (by omega) (by omega)
            have b2 := t1 6 b (by omega) (by omega) (by omega) (by omega)
            rw [show 7 * 6 + a = 42 + a by omega] at a2
            rw [show 7 * 6 + b = 42 + b by omega] at b2
            refine r_run 2 (pc' := 41) (ls' := [some (yr 75), some (yi a), some (yi b), some (yi t), none, none, none, none]) (st' := [yi b, yr 75]) (M' := M2) (N' := N) rfl ?_
            refine r_virtual (mj := 150) (b := 75) (as := [yi b]) (rest := []) f_172_41 (by decide) rfl m_150 (by decide) (by decide) (by decide) rfl rfl (Nat.le_of_ble_eq_true rfl) (by omega) (m_high (by omega)) ?_
            rintro _ _ _ ⟨v41, rfl, hv41, rfl, rfl⟩
            refine r_run 2 (pc' := 46) (ls' := [some (yr 75), some (yi a), some (yi b), some (yi t), none, none, none, none]) (st' := [yi b, yr 75, yi v41]) (M' := M2) (N' := N) rfl ?_
            refine r_virtual (mj := 149) (b := 75) (as := [yi b]) (rest := [yi v41]) f_172_46 (by decide) rfl m_149 (by decide) (by decide) (by decide) rfl rfl (Nat.le_of_ble_eq_true rfl) (by omega) (m_low (by omega)) ?_
            rintro _ _ _ ⟨v46, rfl, hv46, rfl, rfl⟩
            refine r_run 8 (pc' := 59) (ls' := [some (yr 75), some (yi a), some (yi b), some (yi t), some (yi ((v41 - v46) + 1)), some (yj 0), none, none]) (st' := [yi a, yr 75]) (M' := M2) (N' := N) rfl ?_
            refine r_virtual (mj := 149) (b := 75) (as := [yi a]) (rest := []) f_172_59 (by decide) rfl m_149 (by decide) (by decide) (by decide) rfl rfl (Nat.le_of_ble_eq_true rfl) (by omega) (m_low (by omega)) ?_
            rintro _ _ _ ⟨v59, rfl, hv59, rfl, rfl⟩
            refine r_run 1 (pc' := 64) (ls' := [some (yr 75), some (yi a), some (yi b), some (yi t), some (yi ((v41 - v46) + 1)), some (yj 0), none, some (yi v59)]) (st' := []) (M' := M2) (N' := N) rfl ?_
            refine m_less_l (y := nT M 6 a + 1) (j := (nT M 6 a + nT M a 6 + 1).toNat) (la := -nT M a 6) (ha := nT M 6 a) (lb := -nT M b 6) (hb := nT M 6 b) (by omega) ⟨by omega, by omega⟩ ⟨by omega, by omega⟩ (by omega) (by omega) a2 b2 (by omega) rfl (by omega) (by omega) ?_
            have e59 : v59 = -nT M a 6 := by omega
            rw [e59]
            have hin := less_in (x := nT M 6 a + nT M a 6 + 1) (y := nT M 6 b + nT M b 6 + 1) (la := -nT M a 6) (ha := nT M 6 a) (lb := -nT M b 6) (hb := nT M 6 b) (by omega) (by omega) (by omega) (by omega)
            refine r_run 3 (pc' := 104) (ls' := [some (yr 75), some (yi a), some (yi b), some (yi t), some (yi (v41 - v46 + 1)), some (yj (lsF (-nT M b 6) (nT M 6 b) (nT M 6 a + nT M a 6 + 1).toNat (-nT M a 6) 0)), none, some (yi (nT M 6 a + 1))]) (st' := [yi a, yr 75, yj (lsF (-nT M b 6) (nT M 6 b) (nT M 6 a + nT M a 6 + 1).toNat (-nT M a 6) 0)]) (M' := M2) (N' := N) rfl ?_
            refine r_virtual (mj := 150) (b := 75) (as := [yi a]) (rest := [yj (lsF (-nT M b 6) (nT M 6 b) (nT M 6 a + nT M a 6 + 1).toNat (-nT M a 6) 0)]) f_172_104 (by decide) rfl m_150 (by decide) (by decide) (by decide) rfl rfl (Nat.le_of_ble_eq_true rfl) (by omega) (m_high (by omega)) ?_
            rintro _ _ _ ⟨v104, rfl, hv104, rfl, rfl⟩
            refine r_run 2 (pc' := 109) (ls' := [some (yr 75), some (yi a), some (yi b), some (yi t), some (yi (v41 - v46 + 1)), some (yj (lsF (-nT M b 6) (nT M 6 b) (nT M 6 a + nT M a 6 + 1).toNat (-nT M a 6) 0)), none, some (yi (nT M 6 a + 1))]) (st' := [yi a, yr 75, yi v104, yj (lsF (-nT M b 6) (nT M 6 b) (nT M 6 a + nT M a 6 + 1).toNat (-nT M a 6) 0)]) (M' := M2) (N' := N) rfl ?_
            refine r_virtual (mj := 149) (b := 75) (as := [yi a]) (rest := [yi v104, yj (lsF (-nT M b 6) (nT M 6 b) (nT M 6 a + nT M a 6 + 1).toNat (-nT M a 6) 0)]) f_172_109 (by decide) rfl m_149 (by decide) (by decide) (by decide) rfl rfl (Nat.le_of_ble_eq_true rfl) (by omega) (m_low (by omega)) ?_
            rintro _ _ _ ⟨v109, rfl, hv109, rfl, rfl⟩
            refine r_run 1 (pc' := 113) (ls' := [some (yr 75), some (yi a), some (yi b), some (yi t), some (yi (v41 - v46 + 1)), some (yj (lsF (-nT M b 6) (nT M 6 b) (nT M 6 a + nT M a 6 + 1).toNat (-nT M a 6) 0)), none, some (yi (nT M 6 a + 1))]) (st' := [yi (v104 - v109), yj (lsF (-nT M b 6) (nT M 6 b) (nT M 6 a + nT M a 6 + 1).toNat (-nT M a 6) 0)]) (M' := M2) (N' := N) rfl ?_
            refine r_i2l f_172_113 (by omega) ?_
            refine r_run 3 (pc' := 118) (ls' := [some (yr 75), some (yi a), some (yi b), some (yi t), some (yi (v41 - v46 + 1)), some (yj (lsF (-nT M b 6) (nT M 6 b) (nT M 6 a + nT M a 6 + 1).toNat (-nT M a 6) 0)), none, some (yi (nT M 6 a + 1))]) (st' := [yi (v41 - v46 + 1), yj ((v104 - v109) + 1), yj (lsF (-nT M b 6) (nT M 6 b) (nT M 6 a + nT M a 6 + 1).toNat (-nT M a 6) 0)]) (M' := M2) (N' := N) rfl ?_
            refine r_i2l f_172_118 (by omega) ?_
            refine r_run 2 (pc' := 121) (ls' := [some (yr 75), some (yi a), some (yi b), some (yi t), some (yi (v41 - v46 + 1)), some (yj (lsF (-nT M b 6) (nT M 6 b) (nT M 6 a + nT M a 6 + 1).toNat (-nT M a 6) 0)), none, some (yi (nT M 6 a + 1))]) (st' := [yi t, yj (((v104 - v109) + 1) * (v41 - v46 + 1)), yj (lsF (-nT M b 6) (nT M 6 b) (nT M 6 a + nT M a 6 + 1).toNat (-nT M a 6) 0)]) (M' := M2) (N' := N) rfl ?_
            refine r_static (mj := 170) (as := [yj (lsF (-nT M b 6) (nT M 6 b) (nT M 6 a + nT M a 6 + 1).toNat (-nT M a 6) 0), yj (((v104 - v109) + 1) * (v41 - v46 + 1)), yi t]) (rest := []) f_172_121 (by decide) rfl m_170 rfl rfl rfl (Nat.le_of_ble_eq_true rfl) (by omega) ((show rm S 0 170 [yj (lsF (-nT M b 6) (nT M 6 b) (nT M 6 a + nT M a 6 + 1).toNat (-nT M a 6) 0), yj (((v104 - v109) + 1) * (v41 - v46 + 1)), yi t] M2 _ _ from by rw [show v104 - v109 + 1 = nT M 6 a + nT M a 6 + 1 by omega, show v41 - v46 + 1 = nT M 6 b + nT M b 6 + 1 by omega]; exact m_lowest hin.1 hin.2 (by omega))) ?_
            rintro _ _ _ ⟨vv, rfl, hvv, rfl, rfl⟩
            refine r_lret m_172 rfl f_172_124 ?_
            exact ⟨_, rfl, by unfold fLess; rw [if_neg (by omega)]; exact hvv, hq⟩
          · refine r_run 1 (pc' := 38) (ls' := [some (yr 75), some (yi a), some (yi b), some (yi t), none, none, none, none]) (st' := [yj (-4611686018427387904)]) (M' := M2) (N' := N) rfl ?_
            refine r_lret m_172 rfl f_172_38 ?_
            exact ⟨_, rfl, by unfold fLess; rw [if_pos (by omega)], hq⟩
theorem p_less {S : XS} {M N : YM} {a b t : Int} (hqa : -2147483648 ≤ a ∧ a < 2147483648) (hqb : -2147483648 ≤ b ∧ b < 2147483648) (hqt : -2147483648 ≤ t ∧ t < 2147483648) (R : Rel M) : prl S 74 172 [yi a, yi b, yi t] M N := prl_q (fLess a b t) (rm_deep (by decide) (c_less hqa hqb hqt R)) (fun M N R => rm_deep (by decide) (m_less hqa hqb hqt R)) (fun M' _ e => fLess_eq e.eqs) R
