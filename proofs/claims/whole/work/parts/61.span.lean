/-! calls that ask: what is told of the relation's memory, both sides alike -/
noncomputable def nV (M : YM) : Int := @ite Int (nY M) (Classical.propDecidable _) 1 0
theorem nV_yes {M : YM} (h : nY M) : nV M = 1 := if_pos h
theorem nV_no {M : YM} (h : ¬ nY M) : nV M = 0 := if_neg h
theorem eqn.eqs {A B : YM} (h : eqn A B) : eqs A B := by
  have e : ∀ c, c = 76 ∨ c = 77 → B c = A c := fun c hc => funext fun k => h c k (by unfold sc; omega)
  exact ⟨h _ _ (by unfold sc; omega), h _ _ (by unfold sc; omega), h _ _ (by unfold sc; omega), e 76 (by omega), e 77 (by omega)⟩
theorem eqs.eV {M M' : YM} (h : eqs M M') : nV M' = nV M := by
  unfold nV
  rw [h.eY]
theorem eqn.of {M M' : YM} (h : ∀ c, c < 33 ∨ (40 < c ∧ c < 87) → M' c = M c) : eqn M M' := fun c k hs => by rw [h c (by unfold sc at hs; omega)]
theorem csP.at {M M' : YM} {v : Int} (R : Rel M) (h : csP M M' v) : v = nV M ∧ (v = 0 ∨ v = 1) ∧ (v = 1 → cAt M' (nT M)) ∧ (∀ q, in6 q → M' 34 q = lB M 0 q ∧ M' 35 q = lE M 0 q) ∧ (∀ c, c < 33 ∨ 38 < c → M' c = M c) ∧ Rel M' ∧ eqn M M' ∧ tied M' (M 77) sk0 (M 75 2) := by
  obtain ⟨h1, h2, h3, h4⟩ := h
  have e : eqn M M' := eqn.of fun c hc => h1 c (by omega)
  rcases h4 with ⟨a, b, c⟩ | ⟨a, b⟩
  · exact ⟨by rw [nV_yes b, a], Or.inr a, fun _ => c, h3, h1, R.congr e, e, h2⟩
  · exact ⟨by rw [nV_no b, a], Or.inl a, fun g => by omega, h3, h1, R.congr e, e, h2⟩
theorem mcP.at {M M' : YM} {v : Int} (R : Rel M) (h : mcP M M' v) : v = nV M ∧ (v = 0 ∨ v = 1) ∧ (v = 1 → mAt M' (nT M)) ∧ (∀ q, in6 q → M' 90 q = lB M 0 q ∧ M' 91 q = lE M 0 q) ∧ (∀ c, c < 90 ∨ 92 < c → M' c = M c) ∧ Rel M' ∧ eqn M M' := by
  obtain ⟨h1, h3, h4⟩ := h
  have e : eqn M M' := eqn.of fun c hc => h1 c (by omega)
  rcases h4 with ⟨a, b, c⟩ | ⟨a, b⟩
  · exact ⟨by rw [nV_yes b, a], Or.inr a, fun _ => c, h3, h1, R.congr e, e⟩
  · exact ⟨by rw [nV_no b, a], Or.inl a, fun g => by omega, h3, h1, R.congr e, e⟩
theorem c_can1 {S : XS} {M N : YM} (R : Rel M) : rm S 5 97 [yr 0] M N (fun r M' N' => ∃ v : Int, some (yi v) = r ∧ (v = nV M ∧ (v = 0 ∨ v = 1) ∧ (v = 1 → cAt M' (nT M)) ∧ (∀ q, in6 q → M' 34 q = lB M 0 q ∧ M' 35 q = lE M 0 q) ∧ (∀ c, c < 33 ∨ 38 < c → M' c = M c) ∧ Rel M' ∧ eqn M M' ∧ tied M' (M 77) sk0 (M 75 2)) ∧ N = N') :=
  rm_post (c_cutSpans R.s R.l) fun _ _ _ ⟨v, h1, h2, h3⟩ => ⟨v, h1, h2.at R, h3⟩
theorem m_can1 {S : XS} {M N : YM} (R : Rel M) : rm S 3 148 [yr 75] M N (fun r M' N' => ∃ v : Int, some (yi v) = r ∧ (v = nV M ∧ (v = 0 ∨ v = 1) ∧ (v = 1 → mAt M' (nT M)) ∧ (∀ q, in6 q → M' 90 q = lB M 0 q ∧ M' 91 q = lE M 0 q) ∧ (∀ c, c < 90 ∨ 92 < c → M' c = M c) ∧ Rel M' ∧ eqn M M') ∧ N = N') :=
  rm_post (m_canNow R.s R.l) fun _ _ _ ⟨v, h1, h2, h3⟩ => ⟨v, h1, h2.at R, h3⟩
/-- a call that asks answers f: both sides -/
theorem pri_q {S : XS} {mc mm : Nat} {as : List YV} {M N : YM} (f : YM → Int) (hc : rm S 40 mc (yr 0 :: as) M N (fun r M' _ => ∃ v : Int, some (yi v) = r ∧ v = f M ∧ eqn M M')) (hm : ∀ M N, Rel M → rm S 40 mm (yr 75 :: as) M N (fun r M' _ => ∃ v : Int, some (yi v) = r ∧ v = f M ∧ eqn M M')) (hf : ∀ M', Rel M' → eqn M M' → f M' = f M) (R : Rel M) : pri S mc mm as M N := by
  refine rm_post hc ?_
  rintro _ M1 N1 ⟨v, rfl, hv, e⟩
  refine ⟨v, rfl, rm_post (hm M1 N1 (R.congr e)) ?_⟩
  rintro _ M2 N2 ⟨v2, rfl, hv2, e2⟩
  exact ⟨by rw [hv, hv2, hf M1 (R.congr e) e], R.congr (e.trans e2)⟩
theorem prl_q {S : XS} {mc mm : Nat} {as : List YV} {M N : YM} (f : YM → Int) (hc : rm S 40 mc (yr 0 :: as) M N (fun r M' _ => ∃ v : Int, some (yj v) = r ∧ v = f M ∧ eqn M M')) (hm : ∀ M N, Rel M → rm S 40 mm (yr 75 :: as) M N (fun r M' _ => ∃ v : Int, some (yj v) = r ∧ v = f M ∧ eqn M M')) (hf : ∀ M', Rel M' → eqn M M' → f M' = f M) (R : Rel M) : prl S mc mm as M N := by
  refine rm_post hc ?_
  rintro _ M1 N1 ⟨v, rfl, hv, e⟩
  refine ⟨v, rfl, rm_post (hm M1 N1 (R.congr e)) ?_⟩
  rintro _ M2 N2 ⟨v2, rfl, hv2, e2⟩
  exact ⟨by rw [hv, hv2, hf M1 (R.congr e) e], R.congr (e.trans e2)⟩
theorem c_can {S : XS} {M N : YM} (R : Rel M) : rm S 6 62 [yr 0] M N (fun r M' _ => ∃ v : Int, some (yi v) = r ∧ v = nV M ∧ eqn M M') := by
  refine ⟨xe_62, m_62, Nat.le_of_ble_eq_true rfl, ?_⟩
  refine r_run 1 (pc' := 1) (ls' := [some (yr 0)]) (st' := [yr 0]) (M' := M) (N' := N) rfl ?_
  refine r_virtual (mj := 97) (b := 0) (as := []) (rest := []) f_62_1 (by decide) rfl m_97 (by decide) (by decide) (by decide) rfl rfl (Nat.le_of_ble_eq_true rfl) (by omega) (c_can1 R) ?_
  rintro _ M2 _ ⟨v, rfl, ⟨hv, hv01, hat, hBE, hfr, R2, hq, hT⟩, rfl⟩
  refine r_if_eq (pc := 4) f_62_4 (by omega) (fun h4 => ?_) (fun h4 => ?_)
  · refine r_run 1 (pc' := 12) (ls' := [some (yr 0)]) (st' := [yi 0]) (M' := M2) (N' := N) rfl ?_
    refine r_iret m_62 rfl f_62_12 ?_
    exact ⟨_, rfl, by omega, hq⟩
  · refine r_run 2 (pc' := 12) (ls' := [some (yr 0)]) (st' := [yi 1]) (M' := M2) (N' := N) rfl ?_
    refine r_iret m_62 rfl f_62_12 ?_
    exact ⟨_, rfl, by omega, hq⟩
theorem m_can {S : XS} {M N : YM} (R : Rel M) : rm S 4 151 [yr 75] M N (fun r M' _ => ∃ v : Int, some (yi v) = r ∧ v = nV M ∧ eqn M M') := by
  refine ⟨xe_151, m_151, Nat.le_of_ble_eq_true rfl, ?_⟩
  refine r_run 1 (pc' := 1) (ls' := [some (yr 75)]) (st' := [yr 75]) (M' := M) (N' := N) rfl ?_
  refine r_virtual (mj := 148) (b := 75) (as := []) (rest := []) f_151_1 (by decide) rfl m_148 (by decide) (by decide) (by decide) rfl rfl (Nat.le_of_ble_eq_true rfl) (by omega) (m_can1 R) ?_
  rintro _ M2 _ ⟨v, rfl, ⟨hv, hv01, hat, hBE, hfr, R2, hq⟩, rfl⟩
  refine r_if_eq (pc := 4) f_151_4 (by omega) (fun h4 => ?_) (fun h4 => ?_)
  · refine r_run 1 (pc' := 12) (ls' := [some (yr 75)]) (st' := [yi 0]) (M' := M2) (N' := N) rfl ?_
    refine r_iret m_151 rfl f_151_12 ?_
    exact ⟨_, rfl, by omega, hq⟩
  · refine r_run 2 (pc' := 12) (ls' := [some (yr 75)]) (st' := [yi 1]) (M' := M2) (N' := N) rfl ?_
    refine r_iret m_151 rfl f_151_12 ?_
    exact ⟨_, rfl, by omega, hq⟩
theorem p_can {S : XS} {M N : YM} (R : Rel M) : pri S 62 151 [] M N := pri_q nV (rm_deep (by decide) (c_can R)) (fun M N R => rm_deep (by decide) (m_can R)) (fun M' _ e => e.eqs.eV) R
noncomputable def fSpan (q w : Int) (M : YM) : Int := if q < 0 ∨ 5 < q then -5 else if w < 0 ∨ 4 < w then -7 else if w = 3 then lB M 0 q else if w = 4 then lE M 0 q else if nV M = 0 then -1 else if w = 0 then -nT M q 6 else if w = 1 then nT M 6 q else nT M 6 q + nT M q 6
theorem fSpan_eq {q w : Int} {M M' : YM} (e : eqs M M') : fSpan q w M' = fSpan q w M := by
  unfold fSpan
  rw [e.eV, e.eT, e.eB, e.eE]
theorem c_span {S : XS} {M N : YM} {q w : Int} (hqq : -2147483648 ≤ q ∧ q < 2147483648) (hw : -2147483648 ≤ w ∧ w < 2147483648) (R : Rel M) : rm S 6 63 [yr 0, yi q, yi w] M N (fun r M' _ => ∃ v : Int, some (yi v) = r ∧ v = fSpan q w M ∧ eqn M M') := by
  refine ⟨xe_63, m_63, Nat.le_of_ble_eq_true rfl, ?_⟩
  refine r_run 1 (pc' := 1) (ls' := [some (yr 0), some (yi q), some (yi w), none]) (st' := [yi q]) (M' := M) (N' := N) rfl ?_
  refine r_static (mj := 92) (as := [yi q]) (rest := []) f_63_1 (by decide) rfl m_92 rfl rfl rfl (Nat.le_of_ble_eq_true rfl) (by omega) (c_isQ (by omega)) ?_
  rintro _ _ _ ⟨v1, rfl, hv1, rfl, rfl⟩
  refine r_if_ne (pc := 4) f_63_4 (by omega) (fun h4 => ?_) (fun h4 => ?_)
  · refine r_run 3 (pc' := 13) (ls' := [some (yr 0), some (yi q), some (yi w), none]) (st' := [yi 4, yi 0, yi w]) (M' := M) (N' := N) rfl ?_
    refine r_static (mj := 90) (as := [yi w, yi 0, yi 4]) (rest := []) f_63_13 (by decide) rfl m_90 rfl rfl rfl (Nat.le_of_ble_eq_true rfl) (by omega) (c_within (by omega) (by omega) (by omega)) ?_
    rintro _ _ _ ⟨v13, rfl, hv13, rfl, rfl⟩
    refine r_if_ne (pc := 16) f_63_16 (by omega) (fun h16 => ?_) (fun h16 => ?_)
    · refine r_run 1 (pc' := 23) (ls' := [some (yr 0), some (yi q), some (yi w), none]) (st' := [yr 0]) (M' := M) (N' := N) rfl ?_
      refine r_virtual (mj := 97) (b := 0) (as := []) (rest := []) f_63_23 (by decide) rfl m_97 (by decide) (by decide) (by decide) rfl rfl (Nat.le_of_ble_eq_true rfl) (by omega) (c_can1 R) ?_
      rintro _ M2 _ ⟨v, rfl, ⟨hv, hv01, hat, hBE, hfr, R2, hq, hT⟩, rfl⟩
      refine r_run 3 (pc' := 29) (ls' := [some (yr 0), some (yi q), some (yi w), some (yi v)]) (st' := [yi 3, yi w]) (M' := M2) (N' := N) rfl ?_
      refine r_icmp_ne (pc := 29) f_63_29 (by omega) (by omega) (fun h29 => ?_) (fun h29 => ?_)
      · refine r_run 2 (pc' := 44) (ls' := [some (yr 0), some (yi q), some (yi w), some (yi v)]) (st' := [yi 4, yi w]) (M' := M2) (N' := N) rfl ?_
        refine r_icmp_ne (pc := 44) f_63_44 (by omega) (by omega) (fun h44 => ?_) (fun h44 => ?_)
        · refine r_run 1 (pc' := 58) (ls' := [some (yr 0), some (yi q), some (yi w), some (yi v)]) (st' := [yi v]) (M' := M2) (N' := N) rfl ?_
          refine r_if_ne (pc := 58) f_63_58 (by omega) (fun h58 => ?_) (fun h58 => ?_)
          · refine r_run 1 (pc' := 64) (ls' := [some (yr 0), some (yi q), some (yi w), some (yi v)]) (st' := [yi w]) (M' := M2) (N' := N) rfl ?_
            refine r_if_ne (pc := 64) f_63_64 (by omega) (fun h64 => ?_) (fun h64 => ?_)
            · refine r_run 2 (pc' := 81) (ls' := [some (yr 0), some (yi q), some (yi w), some (yi v)]) (st' := [yi 1, yi w]) (M' := M2) (N' := N) rfl ?_
              refine r_icmp_ne (pc := 81) f_63_81 (by omega) (by omega) (fun h81 => ?_) (fun h81 => ?_)
              · refine r_run 4 (pc' := 104) (ls' := [some (yr 0), some (yi q), some (yi w), some (yi v)]) (st' := [yi q, yr 37]) (M' := M2) (N' := N) rfl ?_
                refine r_iald (n := 6) f_63_104 (by decide) (by decide) (by decide) (by omega) ?_
                refine r_run 4 (pc' := 113) (ls' := [some (yr 0), some (yi q), some (yi w), some (yi v)]) (st' := [yi q, yr 36, yi (M2 37 q)]) (M' := M2) (N' := N) rfl ?_
                refine r_iald (n := 6) f_63_113 (by decide) (by decide) (by decide) (by omega) ?_
                refine r_run 1 (pc' := 115) (ls' := [some (yr 0), some (yi q), some (yi w), some (yi v)]) (st' := [yi ((M2 37 q) - (M2 36 q))]) (M' := M2) (N' := N) rfl ?_
                refine r_iret m_63 rfl f_63_115 ?_
                obtain ⟨t1, t2, t3, t4, t5⟩ := (hat (by omega)).1 q ⟨by omega, by omega⟩
                exact ⟨_, rfl, by unfold fSpan; rw [if_neg (by omega), if_neg (by omega), if_neg (by omega), if_neg (by omega), if_neg (by omega), if_neg (by omega), if_neg (by omega)]; omega, hq⟩
              · refine r_run 4 (pc' := 92) (ls' := [some (yr 0), some (yi q), some (yi w), some (yi v)]) (st' := [yi q, yr 37]) (M' := M2) (N' := N) rfl ?_
                refine r_iald (n := 6) f_63_92 (by decide) (by decide) (by decide) (by omega) ?_
                refine r_run 1 (pc' := 115) (ls' := [some (yr 0), some (yi q), some (yi w), some (yi v)]) (st' := [yi (M2 37 q)]) (M' := M2) (N' := N) rfl ?_
                refine r_iret m_63 rfl f_63_115 ?_
                obtain ⟨t1, t2, t3, t4, t5⟩ := (hat (by omega)).1 q ⟨by omega, by omega⟩
                exact ⟨_, rfl, by unfold fSpan; rw [if_neg (by omega), if_neg (by omega), if_neg (by omega), if_neg (by omega), if_neg (by omega), if_neg (by omega), if_pos (by omega)]; omega, hq⟩
            · refine r_run 4 (pc' := 75) (ls' := [some (yr 0), some (yi q), some (yi w), some (yi v)]) (st' := [yi q, yr 36]) (M' := M2) (N' := N) rfl ?_
              refine r_iald (n := 6) f_63_75 (by decide) (by decide) (by decide) (by omega) ?_
              refine r_run 1 (pc' := 115) (ls' := [some (yr 0), some (yi q), some (yi w), some (yi v)]) (st' := [yi (M2 36 q)]) (M' := M2) (N' := N) rfl ?_
              refine r_iret m_63 rfl f_63_115 ?_
              obtain ⟨t1, t2, t3, t4, t5⟩ := (hat (by omega)).1 q ⟨by omega, by omega⟩
              exact ⟨_, rfl, by unfold fSpan; rw [if_neg (by omega), if_neg (by omega), if_neg (by omega), if_neg (by omega), if_neg (by omega), if_pos (by omega)]; omega, hq⟩
          · refine r_run 1 (pc' := 62) (ls' := [some (yr 0), some (yi q), some (yi w), some (yi v)]) (st' := [yi (-1)]) (M' := M2) (N' := N) rfl ?_
            refine r_iret m_63 rfl f_63_62 ?_
            exact ⟨_, rfl, by unfold fSpan; rw [if_neg (by omega), if_neg (by omega), if_neg (by omega), if_neg (by omega), if_pos (by omega)], hq⟩
        · refine r_run 4 (pc' := 55) (ls' := [some (yr 0), some (yi q), some (yi w), some (yi v)]) (st' := [yi q, yr 35]) (M' := M2) (N' := N) rfl ?_
          refine r_iald (n := 6) f_63_55 (by decide) (by decide) (by decide) (by omega) ?_
          refine r_iret m_63 rfl f_63_56 ?_
          have b := hBE q ⟨by omega, by omega⟩
          exact ⟨_, rfl, by unfold fSpan; rw [if_neg (by omega), if_neg (by omega), if_neg (by omega), if_pos (by omega)]; exact b.2, hq⟩
      · refine r_run 4 (pc' := 40) (ls' := [some (yr 0), some (yi q), some (yi w), some (yi v)]) (st' := [yi q, yr 34]) (M' := M2) (N' := N) rfl ?_
        refine r_iald (n := 6) f_63_40 (by decide) (by decide) (by decide) (by omega) ?_
        refine r_iret m_63 rfl f_63_41 ?_
        have b := hBE q ⟨by omega, by omega⟩
        exact ⟨_, rfl, by unfold fSpan; rw [if_neg (by omega), if_neg (by omega), if_pos (by omega)]; exact b.1, hq⟩
    · refine r_run 1 (pc' := 21) (ls' := [some (yr 0), some (yi q), some (yi w), none]) (st' := [yi (-7)]) (M' := M) (N' := N) rfl ?_
      refine r_iret m_63 rfl f_63_21 ?_
      exact ⟨_, rfl, by unfold fSpan; rw [if_neg (by omega), if_pos (by omega)], eqn.refl⟩
  · refine r_run 1 (pc' := 9) (ls' := [some (yr 0), some (yi q), some (yi w), none]) (st' := [yi (-5)]) (M' := M) (N' := N) rfl ?_
    refine r_iret m_63 rfl f_63_9 ?_
    exact ⟨_, rfl, by unfold fSpan; rw [if_pos (by omega)], eqn.refl⟩
theorem m_span {S : XS} {M N : YM} {q w : Int} (hqq : -2147483648 ≤ q ∧ q < 2147483648) (hw : -2147483648 ≤ w ∧ w < 2147483648) (R : Rel M) : rm S 4 152 [yr 75, yi q, yi w] M N (fun r M' _ => ∃ v : Int, some (yi v) = r ∧ v = fSpan q w M ∧ eqn M M') := by
  refine ⟨xe_152, m_152, Nat.le_of_ble_eq_true rfl, ?_⟩
  refine r_run 1 (pc' := 1) (ls' := [some (yr 75), some (yi q), some (yi w), none]) (st' := [yi q]) (M' := M) (N' := N) rfl ?_
  refine r_static (mj := 115) (as := [yi q]) (rest := []) f_152_1 (by decide) rfl m_115 rfl rfl rfl (Nat.le_of_ble_eq_true rfl) (by omega) (m_isOne (by omega)) ?_
  rintro _ _ _ ⟨v1, rfl, hv1, rfl, rfl⟩
  refine r_if_ne (pc := 4) f_152_4 (by omega) (fun h4 => ?_) (fun h4 => ?_)
  · refine r_run 3 (pc' := 13) (ls' := [some (yr 75), some (yi q), some (yi w), none]) (st' := [yi 4, yi 0, yi w]) (M' := M) (N' := N) rfl ?_
    refine r_static (mj := 112) (as := [yi w, yi 0, yi 4]) (rest := []) f_152_13 (by decide) rfl m_112 rfl rfl rfl (Nat.le_of_ble_eq_true rfl) (by omega) (m_in (by omega) (by omega) (by omega)) ?_
    rintro _ _ _ ⟨v13, rfl, hv13, rfl, rfl⟩
    refine r_if_ne (pc := 16) f_152_16 (by omega) (fun h16 => ?_) (fun h16 => ?_)
    · refine r_run 1 (pc' := 23) (ls' := [some (yr 75), some (yi q), some (yi w), none]) (st' := [yr 75]) (M' := M) (N' := N) rfl ?_
      refine r_virtual (mj := 148) (b := 75) (as := []) (rest := []) f_152_23 (by decide) rfl m_148 (by decide) (by decide) (by decide) rfl rfl (Nat.le_of_ble_eq_true rfl) (by omega) (m_can1 R) ?_
      rintro _ M2 _ ⟨v, rfl, ⟨hv, hv01, hat, hBE, hfr, R2, hq⟩, rfl⟩
      refine r_run 3 (pc' := 29) (ls' := [some (yr 75), some (yi q), some (yi w), some (yi v)]) (st' := [yi 2, yi w]) (M' := M2) (N' := N) rfl ?_
      refine r_icmp_le (pc := 29) f_152_29 (by omega) (by omega) (fun h29 => ?_) (fun h29 => ?_)
      · refine r_run 1 (pc' := 54) (ls' := [some (yr 75), some (yi q), some (yi w), some (yi v)]) (st' := [yi v]) (M' := M2) (N' := N) rfl ?_
        refine r_if_ne (pc := 54) f_152_54 (by omega) (fun h54 => ?_) (fun h54 => ?_)
        · refine r_run 1 (pc' := 62) (ls' := [some (yr 75), some (yi q), some (yi w), some (yi v)]) (st' := [yi w]) (M' := M2) (N' := N) rfl ?_
          refine r_if_ne (pc := 62) f_152_62 (by omega) (fun h62 => ?_) (fun h62 => ?_)
          · refine r_run 2 (pc' := 75) (ls' := [some (yr 75), some (yi q), some (yi w), some (yi v)]) (st' := [yi 1, yi w]) (M' := M2) (N' := N) rfl ?_
            refine r_icmp_ne (pc := 75) f_152_75 (by omega) (by omega) (fun h75 => ?_) (fun h75 => ?_)
            · refine r_run 2 (pc' := 88) (ls' := [some (yr 75), some (yi q), some (yi w), some (yi v)]) (st' := [yi q, yr 75]) (M' := M2) (N' := N) rfl ?_
              refine r_virtual (mj := 150) (b := 75) (as := [yi q]) (rest := []) f_152_88 (by decide) rfl m_150 (by decide) (by decide) (by decide) rfl rfl (Nat.le_of_ble_eq_true rfl) (by omega) (m_high (by omega)) ?_
              rintro _ _ _ ⟨v88, rfl, hv88, rfl, rfl⟩
              refine r_run 2 (pc' := 93) (ls' := [some (yr 75), some (yi q), some (yi w), some (yi v)]) (st' := [yi q, yr 75, yi v88]) (M' := M2) (N' := N) rfl ?_
              refine r_virtual (mj := 149) (b := 75) (as := [yi q]) (rest := [yi v88]) f_152_93 (by decide) rfl m_149 (by decide) (by decide) (by decide) rfl rfl (Nat.le_of_ble_eq_true rfl) (by omega) (m_low (by omega)) ?_
              rintro _ _ _ ⟨v93, rfl, hv93, rfl, rfl⟩
              refine r_run 1 (pc' := 97) (ls' := [some (yr 75), some (yi q), some (yi w), some (yi v)]) (st' := [yi (v88 - v93)]) (M' := M2) (N' := N) rfl ?_
              refine r_iret m_152 rfl f_152_97 ?_
              obtain ⟨t1, -, -⟩ := hat (by omega)
              have a1 := t1 q 6 (by omega) (by omega) (by omega) (by omega)
              have a2 := t1 6 q (by omega) (by omega) (by omega) (by omega)
              rw [show 7 * 6 + q = 42 + q by omega] at a2
              exact ⟨_, rfl, by unfold fSpan; rw [if_neg (by omega), if_neg (by omega), if_neg (by omega), if_neg (by omega), if_neg (by omega), if_neg (by omega), if_neg (by omega)]; omega, hq⟩
            · refine r_run 2 (pc' := 80) (ls' := [some (yr 75), some (yi q), some (yi w), some (yi v)]) (st' := [yi q, yr 75]) (M' := M2) (N' := N) rfl ?_
              refine r_virtual (mj := 150) (b := 75) (as := [yi q]) (rest := []) f_152_80 (by decide) rfl m_150 (by decide) (by decide) (by decide) rfl rfl (Nat.le_of_ble_eq_true rfl) (by omega) (m_high (by omega)) ?_
              rintro _ _ _ ⟨v80, rfl, hv80, rfl, rfl⟩
              refine r_run 1 (pc' := 97) (ls' := [some (yr 75), some (yi q), some (yi w), some (yi v)]) (st' := [yi v80]) (M' := M2) (N' := N) rfl ?_
              refine r_iret m_152 rfl f_152_97 ?_
              obtain ⟨t1, -, -⟩ := hat (by omega)
              have a1 := t1 q 6 (by omega) (by omega) (by omega) (by omega)
              have a2 := t1 6 q (by omega) (by omega) (by omega) (by omega)
              rw [show 7 * 6 + q = 42 + q by omega] at a2
              exact ⟨_, rfl, by unfold fSpan; rw [if_neg (by omega), if_neg (by omega), if_neg (by omega), if_neg (by omega), if_neg (by omega), if_neg (by omega), if_pos (by omega)]; omega, hq⟩
          · refine r_run 2 (pc' := 67) (ls' := [some (yr 75), some (yi q), some (yi w), some (yi v)]) (st' := [yi q, yr 75]) (M' := M2) (N' := N) rfl ?_
            refine r_virtual (mj := 149) (b := 75) (as := [yi q]) (rest := []) f_152_67 (by decide) rfl m_149 (by decide) (by decide) (by decide) rfl rfl (Nat.le_of_ble_eq_true rfl) (by omega) (m_low (by omega)) ?_
            rintro _ _ _ ⟨v67, rfl, hv67, rfl, rfl⟩
            refine r_run 1 (pc' := 97) (ls' := [some (yr 75), some (yi q), some (yi w), some (yi v)]) (st' := [yi v67]) (M' := M2) (N' := N) rfl ?_
            refine r_iret m_152 rfl f_152_97 ?_
            obtain ⟨t1, -, -⟩ := hat (by omega)
            have a1 := t1 q 6 (by omega) (by omega) (by omega) (by omega)
            have a2 := t1 6 q (by omega) (by omega) (by omega) (by omega)
            rw [show 7 * 6 + q = 42 + q by omega] at a2
            exact ⟨_, rfl, by unfold fSpan; rw [if_neg (by omega), if_neg (by omega), if_neg (by omega), if_neg (by omega), if_neg (by omega), if_pos (by omega)]; omega, hq⟩
        · refine r_run 2 (pc' := 97) (ls' := [some (yr 75), some (yi q), some (yi w), some (yi v)]) (st' := [yi (-1)]) (M' := M2) (N' := N) rfl ?_
          refine r_iret m_152 rfl f_152_97 ?_
          exact ⟨_, rfl, by unfold fSpan; rw [if_neg (by omega), if_neg (by omega), if_neg (by omega), if_neg (by omega), if_pos (by omega)], hq⟩
      · refine r_run 2 (pc' := 34) (ls' := [some (yr 75), some (yi q), some (yi w), some (yi v)]) (st' := [yi 3, yi w]) (M' := M2) (N' := N) rfl ?_
        refine r_icmp_ne (pc := 34) f_152_34 (by omega) (by omega) (fun h34 => ?_) (fun h34 => ?_)
        · refine r_run 3 (pc' := 51) (ls' := [some (yr 75), some (yi q), some (yi w), some (yi v)]) (st' := [yi q, yr 91]) (M' := M2) (N' := N) rfl ?_
          refine r_iald (n := 6) f_152_51 (by decide) (by decide) (by decide) (by omega) ?_
          refine r_iret m_152 rfl f_152_52 ?_
          have b := hBE q ⟨by omega, by omega⟩
          exact ⟨_, rfl, by unfold fSpan; rw [if_neg (by omega), if_neg (by omega), if_neg (by omega), if_pos (by omega)]; exact b.2, hq⟩
        · refine r_run 3 (pc' := 42) (ls' := [some (yr 75), some (yi q), some (yi w), some (yi v)]) (st' := [yi q, yr 90]) (M' := M2) (N' := N) rfl ?_
          refine r_iald (n := 6) f_152_42 (by decide) (by decide) (by decide) (by omega) ?_
          refine r_run 1 (pc' := 52) (ls' := [some (yr 75), some (yi q), some (yi w), some (yi v)]) (st' := [yi (M2 90 q)]) (M' := M2) (N' := N) rfl ?_
          refine r_iret m_152 rfl f_152_52 ?_
          have b := hBE q ⟨by omega, by omega⟩
          exact ⟨_, rfl, by unfold fSpan; rw [if_neg (by omega), if_neg (by omega), if_pos (by omega)]; exact b.1, hq⟩
    · refine r_run 1 (pc' := 21) (ls' := [some (yr 75), some (yi q), some (yi w), none]) (st' := [yi (-7)]) (M' := M) (N' := N) rfl ?_
      refine r_iret m_152 rfl f_152_21 ?_
      exact ⟨_, rfl, by unfold fSpan; rw [if_neg (by omega), if_pos (by omega)], eqn.refl⟩
  · refine r_run 1 (pc' := 9) (ls' := [some (yr 75), some (yi q), some (yi w), none]) (st' := [yi (-5)]) (M' := M) (N' := N) rfl ?_
    refine r_iret m_152 rfl f_152_9 ?_
    exact ⟨_, rfl, by unfold fSpan; rw [if_pos (by omega)], eqn.refl⟩
theorem p_span {S : XS} {M N : YM} {q w : Int} (hqq : -2147483648 ≤ q ∧ q < 2147483648) (hqw : -2147483648 ≤ w ∧ w < 2147483648) (R : Rel M) : pri S 63 152 [yi q, yi w] M N := pri_q (fSpan q w) (rm_deep (by decide) (c_span hqq hqw R)) (fun M N R => rm_deep (by decide) (m_span hqq hqw R)) (fun M' _ e => fSpan_eq e.eqs) R
noncomputable def fApart (a b w : Int) (M : YM) : Int := if (a < 0 ∨ 5 < a) ∨ (b < 0 ∨ 5 < b) ∨ (w < 0 ∨ 1 < w) ∨ nV M = 0 then -100000 else if w = 0 then -nT M b a else nT M a b
theorem fApart_eq {a b w : Int} {M M' : YM} (e : eqs M M') : fApart a b w M' = fApart a b w M := by
  unfold fApart
  rw [e.eV, e.eT]
theorem c_mostAhead {S : XS} {M N : YM} {a b : Int} {O : Int → Int → Int} (ha : in6 a) (hb : in6 b) (h : cAt M O) : rm S 1 39 [yr 33, yi a, yi b] M N (fun r M' N' => ∃ v : Int, some (yi v) = r ∧ (v = O a b) ∧ M = M' ∧ N = N') := by
  refine ⟨xe_39, m_39, Nat.le_of_ble_eq_true rfl, ?_⟩
  have h1 := h.1 a ha
  have h2 := h.1 b hb
  have h3 := h.2.1 (a * 6 + b) (by omega) (by omega)
  have h4 := h.2.2 a b ha hb
  rw [show 6 * a + b = a * 6 + b by omega] at h4
  refine r_run 7 (pc' := 10) (ls' := [some (yr 33), some (yi a), some (yi b)]) (st' := [yi ((a * 6) + b), yr 38]) (M' := M) (N' := N) rfl ?_
  refine r_iald (n := 36) f_39_10 (by decide) (by decide) (by decide) (by omega) ?_
  refine r_run 3 (pc' := 16) (ls' := [some (yr 33), some (yi a), some (yi b)]) (st' := [yi b, yr 37, yi (M 38 ((a * 6) + b))]) (M' := M) (N' := N) rfl ?_
  refine r_iald (n := 6) f_39_16 (by decide) (by decide) (by decide) (by omega) ?_
  refine r_run 3 (pc' := 22) (ls' := [some (yr 33), some (yi a), some (yi b)]) (st' := [yi a, yr 36, yi (M 37 b), yi (M 38 ((a * 6) + b))]) (M' := M) (N' := N) rfl ?_
  refine r_iald (n := 6) f_39_22 (by decide) (by decide) (by decide) (by omega) ?_
  refine r_run 1 (pc' := 24) (ls' := [some (yr 33), some (yi a), some (yi b)]) (st' := [yi ((M 37 b) - (M 36 a)), yi (M 38 ((a * 6) + b))]) (M' := M) (N' := N) rfl ?_
  refine r_min f_39_24 (by omega) (by omega) (Nat.le_of_ble_eq_true rfl) (by omega) (fun v24 hv24 => ?_)
  refine r_iret m_39 rfl f_39_27 ?_
  exact ⟨_, rfl, by rw [imin_eq hv24]; exact h4, rfl, rfl⟩
theorem c_apart {S : XS} {M N : YM} {a b w : Int} (hqa : -2147483648 ≤ a ∧ a < 2147483648) (hqb : -2147483648 ≤ b ∧ b < 2147483648) (hw : -2147483648 ≤ w ∧ w < 2147483648) (R : Rel M) : rm S 6 64 [yr 0, yi a, yi b, yi w] M N (fun r M' _ => ∃ v : Int, some (yi v) = r ∧ v = fApart a b w M ∧ eqn M M') := by
  refine ⟨xe_64, m_64, Nat.le_of_ble_eq_true rfl, ?_⟩
  refine r_run 1 (pc' := 1) (ls' := [some (yr 0), some (yi a), some (yi b), some (yi w)]) (st' := [yi a]) (M' := M) (N' := N) rfl ?_
  refine r_static (mj := 92) (as := [yi a]) (rest := []) f_64_1 (by decide) rfl m_92 rfl rfl rfl (Nat.le_of_ble_eq_true rfl) (by omega) (c_isQ (by omega)) ?_
  rintro _ _ _ ⟨v1, rfl, hv1, rfl, rfl⟩
  refine r_if_eq (pc := 4) f_64_4 (by omega) (fun h4 => ?_) (fun h4 => ?_)
  · refine r_run 1 (pc' := 32) (ls' := [some (yr 0), some (yi a), some (yi b), some (yi w)]) (st' := [yi (-100000)]) (M' := M) (N' := N) rfl ?_
    refine r_iret m_64 rfl f_64_32 ?_
    exact ⟨_, rfl, by unfold fApart; rw [if_pos (by omega)], eqn.refl⟩
  · refine r_run 1 (pc' := 8) (ls' := [some (yr 0), some (yi a), some (yi b), some (yi w)]) (st' := [yi b]) (M' := M) (N' := N) rfl ?_
    refine r_static (mj := 92) (as := [yi b]) (rest := []) f_64_8 (by decide) rfl m_92 rfl rfl rfl (Nat.le_of_ble_eq_true rfl) (by omega) (c_isQ (by omega)) ?_
    rintro _ _ _ ⟨v8, rfl, hv8, rfl, rfl⟩
    refine r_if_eq (pc := 11) f_64_11 (by omega) (fun h11 => ?_) (fun h11 => ?_)
    · refine r_run 1 (pc' := 32) (ls' := [some (yr 0), some (yi a), some (yi b), some (yi w)]) (st' := [yi (-100000)]) (M' := M) (N' := N) rfl ?_
      refine r_iret m_64 rfl f_64_32 ?_
      exact ⟨_, rfl, by unfold fApart; rw [if_pos (by omega)], eqn.refl⟩
    · refine r_run 3 (pc' := 17) (ls' := [some (yr 0), some (yi a), some (yi b), some (yi w)]) (st' := [yi 1, yi 0, yi w]) (M' := M) (N' := N) rfl ?_
      refine r_static (mj := 90) (as := [yi w, yi 0, yi 1]) (rest := []) f_64_17 (by decide) rfl m_90 rfl rfl rfl (Nat.le_of_ble_eq_true rfl) (by omega) (c_within (by omega) (by omega) (by omega)) ?_
      rintro _ _ _ ⟨v17, rfl, hv17, rfl, rfl⟩
      refine r_if_eq (pc := 20) f_64_20 (by omega) (fun h20 => ?_) (fun h20 => ?_)
      · refine r_run 1 (pc' := 32) (ls' := [some (yr 0), some (yi a), some (yi b), some (yi w)]) (st' := [yi (-100000)]) (M' := M) (N' := N) rfl ?_
        refine r_iret m_64 rfl f_64_32 ?_
        exact ⟨_, rfl, by unfold fApart; rw [if_pos (by omega)], eqn.refl⟩
      · refine r_run 1 (pc' := 24) (ls' := [some (yr 0), some (yi a), some (yi b), some (yi w)]) (st' := [yr 0]) (M' := M) (N' := N) rfl ?_
        refine r_virtual (mj := 97) (b := 0) (as := []) (rest := []) f_64_24 (by decide) rfl m_97 (by decide) (by decide) (by decide) rfl rfl (Nat.le_of_ble_eq_true rfl) (by omega) (c_can1 R) ?_
        rintro _ M2 _ ⟨v, rfl, ⟨hv, hv01, hat, hBE, hfr, R2, hq, hT⟩, rfl⟩
        refine r_if_ne (pc := 27) f_64_27 (by omega) (fun h27 => ?_) (fun h27 => ?_)
        · refine r_run 1 (pc' := 34) (ls' := [some (yr 0), some (yi a), some (yi b), some (yi w)]) (st' := [yi w]) (M' := M2) (N' := N) rfl ?_
          refine r_if_ne (pc := 34) f_64_34 (by omega) (fun h34 => ?_) (fun h34 => ?_)
          · refine r_run 4 (pc' := 56) (ls' := [some (yr 0), some (yi a), some (yi b), some (yi w)]) (st' := [yi b, yi a, yr 33]) (M' := M2) (N' := N) rfl ?_
            refine r_virtual (mj := 39) (b := 33) (as := [yi a, yi b]) (rest := []) f_64_56 (by decide) rfl m_39 (by decide) (by decide) (by decide) rfl rfl (Nat.le_of_ble_eq_true rfl) (by omega) (c_mostAhead (by omega) (by omega) (hat (by omega))) ?_
            rintro _ _ _ ⟨v56, rfl, hv56, rfl, rfl⟩
            refine r_iret m_64 rfl f_64_59 ?_
            exact ⟨_, rfl, by unfold fApart; rw [if_neg (by omega), if_neg (by omega)]; exact hv56, hq⟩
          · refine r_run 4 (pc' := 43) (ls' := [some (yr 0), some (yi a), some (yi b), some (yi w)]) (st' := [yi a, yi b, yr 33]) (M' := M2) (N' := N) rfl ?_
            refine r_virtual (mj := 39) (b := 33) (as := [yi b, yi a]) (rest := []) f_64_43 (by decide) rfl m_39 (by decide) (by decide) (by decide) rfl rfl (Nat.le_of_ble_eq_true rfl) (by omega) (c_mostAhead (by omega) (by omega) (hat (by omega))) ?_
            rintro _ _ _ ⟨v43, rfl, hv43, rfl, rfl⟩
            refine r_run 2 (pc' := 59) (ls' := [some (yr 0), some (yi a), some (yi b), some (yi w)]) (st' := [yi (-v43)]) (M' := M2) (N' := N) rfl ?_
            refine r_iret m_64 rfl f_64_59 ?_
            exact ⟨_, rfl, by unfold fApart; rw [if_neg (by omega), if_pos (by omega), hv43], hq⟩
        · refine r_run 1 (pc' := 32) (ls' := [some (yr 0), some (yi a), some (yi b), some (yi w)]) (st' := [yi (-100000)]) (M' := M2) (N' := N) rfl ?_
          refine r_iret m_64 rfl f_64_32 ?_
          exact ⟨_, rfl, by unfold fApart; rw [if_pos (by omega)], hq⟩
theorem m_apart {S : XS} {M N : YM} {a b w : Int} (hqa : -2147483648 ≤ a ∧ a < 2147483648) (hqb : -2147483648 ≤ b ∧ b < 2147483648) (hw : -2147483648 ≤ w ∧ w < 2147483648) (R : Rel M) : rm S 4 153 [yr 75, yi a, yi b, yi w] M N (fun r M' _ => ∃ v : Int, some (yi v) = r ∧ v = fApart a b w M ∧ eqn M M') := by
  refine ⟨xe_153, m_153, Nat.le_of_ble_eq_true rfl, ?_⟩
  refine r_run 1 (pc' := 1) (ls' := [some (yr 75), some (yi a), some (yi b), some (yi w)]) (st' := [yi a]) (M' := M) (N' := N) rfl ?_
  refine r_static (mj := 115) (as := [yi a]) (rest := []) f_153_1 (by decide) rfl m_115 rfl rfl rfl (Nat.le_of_ble_eq_true rfl) (by omega) (m_isOne (by omega)) ?_
  rintro _ _ _ ⟨v1, rfl, hv1, rfl, rfl⟩
  refine r_if_eq (pc := 4) f_153_4 (by omega) (fun h4 => ?_) (fun h4 => ?_)
  · refine r_run 1 (pc' := 32) (ls' := [some (yr 75), some (yi a), some (yi b), some (yi w)]) (st' := [yi (-100000)]) (M' := M) (N' := N) rfl ?_
    refine r_iret m_153 rfl f_153_32 ?_
    exact ⟨_, rfl, by unfold fApart; rw [if_pos (by omega)], eqn.refl⟩
  · refine r_run 1 (pc' := 8) (ls' := [some (yr 75), some (yi a), some (yi b), some (yi w)]) (st' := [yi b]) (M' := M) (N' := N) rfl ?_
    refine r_static (mj := 115) (as := [yi b]) (rest := []) f_153_8 (by decide) rfl m_115 rfl rfl rfl (Nat.le_of_ble_eq_true rfl) (by omega) (m_isOne (by omega)) ?_
    rintro _ _ _ ⟨v8, rfl, hv8, rfl, rfl⟩
    refine r_if_eq (pc := 11) f_153_11 (by omega) (fun h11 => ?_) (fun h11 => ?_)
    · refine r_run 1 (pc' := 32) (ls' := [some (yr 75), some (yi a), some (yi b), some (yi w)]) (st' := [yi (-100000)]) (M' := M) (N' := N) rfl ?_
      refine r_iret m_153 rfl f_153_32 ?_
      exact ⟨_, rfl, by unfold fApart; rw [if_pos (by omega)], eqn.refl⟩
    · refine r_run 3 (pc' := 17) (ls' := [some (yr 75), some (yi a), some (yi b), some (yi w)]) (st' := [yi 1, yi 0, yi w]) (M' := M) (N' := N) rfl ?_
      refine r_static (mj := 112) (as := [yi w, yi 0, yi 1]) (rest := []) f_153_17 (by decide) rfl m_112 rfl rfl rfl (Nat.le_of_ble_eq_true rfl) (by omega) (m_in (by omega) (by omega) (by omega)) ?_
      rintro _ _ _ ⟨v17, rfl, hv17, rfl, rfl⟩
      refine r_if_eq (pc := 20) f_153_20 (by omega) (fun h20 => ?_) (fun h20 => ?_)
      · refine r_run 1 (pc' := 32) (ls' := [some (yr 75), some (yi a), some (yi b), some (yi w)]) (st' := [yi (-100000)]) (M' := M) (N' := N) rfl ?_
        refine r_iret m_153 rfl f_153_32 ?_
        exact ⟨_, rfl, by unfold fApart; rw [if_pos (by omega)], eqn.refl⟩
      · refine r_run 1 (pc' := 24) (ls' := [some (yr 75), some (yi a), some (yi b), some (yi w)]) (st' := [yr 75]) (M' := M) (N' := N) rfl ?_
        refine r_virtual (mj := 148) (b := 75) (as := []) (rest := []) f_153_24 (by decide) rfl m_148 (by decide) (by decide) (by decide) rfl rfl (Nat.le_of_ble_eq_true rfl) (by omega) (m_can1 R) ?_
        rintro _ M2 _ ⟨v, rfl, ⟨hv, hv01, hat, hBE, hfr, R2, hq⟩, rfl⟩
        refine r_if_ne (pc := 27) f_153_27 (by omega) (fun h27 => ?_) (fun h27 => ?_)
        · refine r_run 1 (pc' := 34) (ls' := [some (yr 75), some (yi a), some (yi b), some (yi w)]) (st' := [yi w]) (M' := M2) (N' := N) rfl ?_
          refine r_if_ne (pc := 34) f_153_34 (by omega) (fun h34 => ?_) (fun h34 => ?_)
          · refine r_run 7 (pc' := 62) (ls' := [some (yr 75), some (yi a), some (yi b), some (yi w)]) (st' := [yi ((7 * a) + b), yr 92]) (M' := M2) (N' := N) rfl ?_
            refine r_iald (n := 49) f_153_62 (by decide) (by decide) (by decide) (by omega) ?_
            refine r_iret m_153 rfl f_153_63 ?_
            exact ⟨_, rfl, by unfold fApart; rw [if_neg (by omega), if_neg (by omega)]; exact (hat (by omega)).1 a b (by omega) (by omega) (by omega) (by omega), hq⟩
          · refine r_run 7 (pc' := 47) (ls' := [some (yr 75), some (yi a), some (yi b), some (yi w)]) (st' := [yi ((7 * b) + a), yr 92]) (M' := M2) (N' := N) rfl ?_
            refine r_iald (n := 49) f_153_47 (by decide) (by decide) (by decide) (by omega) ?_
            refine r_run 2 (pc' := 63) (ls' := [some (yr 75), some (yi a), some (yi b), some (yi w)]) (st' := [yi (-(M2 92 ((7 * b) + a)))]) (M' := M2) (N' := N) rfl ?_
            refine r_iret m_153 rfl f_153_63 ?_
            exact ⟨_, rfl, by unfold fApart; rw [if_neg (by omega), if_pos (by omega), (hat (by omega)).1 b a (by omega) (by omega) (by omega) (by omega)], hq⟩
        · refine r_run 1 (pc' := 32) (ls' := [some (yr 75), some (yi a), some (yi b), some (yi w)]) (st' := [yi (-100000)]) (M' := M2) (N' := N) rfl ?_
          refine r_iret m_153 rfl f_153_32 ?_
          exact ⟨_, rfl, by unfold fApart; rw [if_pos (by omega)], hq⟩
theorem p_apart {S : XS} {M N : YM} {a b w : Int} (hqa : -2147483648 ≤ a ∧ a < 2147483648) (hqb : -2147483648 ≤ b ∧ b < 2147483648) (hqw : -2147483648 ≤ w ∧ w < 2147483648) (R : Rel M) : pri S 64 153 [yi a, yi b, yi w] M N := pri_q (fApart a b w) (rm_deep (by decide) (c_apart hqa hqb hqw R)) (fun M N R => rm_deep (by decide) (m_apart hqa hqb hqw R)) (fun M' _ e => fApart_eq e.eqs) R
def jF (C Lo Hi : Int → Int) : Nat → Int → Int
  | 0, _ => -1
  | j + 1, q => if Lo q ≤ C q ∧ C q ≤ Hi q then jF C Lo Hi j (q + 1) else q
theorem jF_yes {C Lo Hi : Int → Int} {j : Nat} {q : Int} (h : Lo q ≤ C q ∧ C q ≤ Hi q) : jF C Lo Hi (j + 1) q = jF C Lo Hi j (q + 1) := by rw [jF, if_pos h]
theorem jF_no {C Lo Hi : Int → Int} {j : Nat} {q : Int} (h : ¬ (Lo q ≤ C q ∧ C q ≤ Hi q)) : jF C Lo Hi (j + 1) q = q := by rw [jF, if_neg h]
noncomputable def fJudge (s : Int) (M : YM) : Int := if hWrong M s ≠ 0 then hWrong M s else if nV M = 0 then -9 else jF (fun q => M 84 (40 * s + q)) (fun q => -nT M q 6) (fun q => nT M 6 q) 6 0
theorem hWrong_eq {M M' : YM} {s : Int} (e : eqn M M') : hWrong M' s = hWrong M s := by
  unfold hWrong
  rw [e 82 s (by unfold sc; omega), e 83 s (by unfold sc; omega)]
theorem fJudge_eq {s : Int} {M M' : YM} (e : eqn M M') : fJudge s M' = fJudge s M := by
  have h : (fun q => M' 84 (40 * s + q)) = fun q => M 84 (40 * s + q) := funext fun q => e _ _ (by unfold sc; omega)
  unfold fJudge
  rw [hWrong_eq e, e.eqs.eV, e.eqs.eT, h]
theorem c_judge_l {S : XS} {d : Nat} {s w : Int} {O : Int → Int → Int} {M N : YM} (hd : 2 ≤ d) (hs : 0 ≤ s ∧ s < 4) (hH : RH M M) (hA : cAt M O) {j : Nat} : ∀ {q : Int}, 0 ≤ q → q + j = 6 → ry S d 77 24 [some (yr 0), some (yi s), some (yi w), some (yi q)] [] M N (fun r M' N' => ∃ v : Int, some (yi v) = r ∧ v = jF (fun q => M 84 (40 * s + q)) (fun q => -O q 6) (fun q => O 6 q) j q ∧ M = M' ∧ N = N') := by
  induction j with
  | zero =>
    intro q h0 h1
    refine r_run 2 (pc' := 27) (ls' := [some (yr 0), some (yi s), some (yi w), some (yi q)]) (st' := [yi 6, yi q]) (M' := M) (N' := N) rfl ?_
    refine r_icmp_ge (pc := 27) f_77_27 (by omega) (by omega) (fun h27 => ?_) (fun h27 => ?_)
    · refine r_run 1 (pc' := 74) (ls' := [some (yr 0), some (yi s), some (yi w), some (yi q)]) (st' := [yi (-1)]) (M' := M) (N' := N) rfl ?_
      refine r_iret m_77 rfl f_77_74 ?_
      exact ⟨_, rfl, rfl, rfl, rfl⟩
    · exfalso; omega
  | succ j ih =>
    intro q h0 h1
    have hc := (hH s hs.1 hs.2).2.2.2.2 q h0 (by omega)
    have ha := hA.1 q ⟨h0, by omega⟩
    refine r_run 2 (pc' := 27) (ls' := [some (yr 0), some (yi s), some (yi w), some (yi q)]) (st' := [yi 6, yi q]) (M' := M) (N' := N) rfl ?_
    refine r_icmp_ge (pc := 27) f_77_27 (by omega) (by omega) (fun h27 => ?_) (fun h27 => ?_)
    · exfalso; omega
    · refine r_run 3 (pc' := 35) (ls' := [some (yr 0), some (yi s), some (yi w), some (yi q)]) (st' := [yi s, yr 32]) (M' := M) (N' := N) rfl ?_
      refine r_aald (r := 67 + 2 * s) (kd := 103) (n := 4) f_77_35 (by decide) (by decide) (by decide) (by decide) (by omega) (rf_sheet (by omega)) ?_
      refine r_getr (r := 68 + 2 * s) (n := 3) f_77_36 (by decide) (show xFT[17]? = some (3, 0) from rfl) (by decide) (by omega) (yk_sheet (by omega)) (rf_scell (by omega)) ?_
      refine r_run 1 (pc' := 40) (ls' := [some (yr 0), some (yi s), some (yi w), some (yi q)]) (st' := [yi q, yr (68 + 2 * s)]) (M' := M) (N' := N) rfl ?_
      refine r_iald (n := 40) f_77_40 (by omega) (yk_scell (by omega)) (by decide) (by omega) ?_
      refine r_run 4 (pc' := 49) (ls' := [some (yr 0), some (yi s), some (yi w), some (yi q)]) (st' := [yi q, yr 36, yi (M (68 + 2 * s) q)]) (M' := M) (N' := N) rfl ?_
      refine r_iald (n := 6) f_77_49 (by decide) (by decide) (by decide) (by omega) ?_
      refine r_run 4 (pc' := 58) (ls' := [some (yr 0), some (yi s), some (yi w), some (yi q)]) (st' := [yi q, yr 37, yi (M 36 q), yi (M (68 + 2 * s) q)]) (M' := M) (N' := N) rfl ?_
      refine r_iald (n := 6) f_77_58 (by decide) (by decide) (by decide) (by omega) ?_
      refine r_static (mj := 90) (as := [yi (M (68 + 2 * s) q), yi (M 36 q), yi (M 37 q)]) (rest := []) f_77_59 (by decide) rfl m_90 rfl rfl rfl (Nat.le_of_ble_eq_true rfl) (by omega) (c_within (by omega) (by omega) (by omega)) ?_
      rintro _ _ _ ⟨v59, rfl, hv59, rfl, rfl⟩
      refine r_if_ne (pc := 62) f_77_62 (by omega) (fun h62 => ?_) (fun h62 => ?_)
      · refine r_run 2 (pc' := 24) (ls' := [some (yr 0), some (yi s), some (yi w), some (yi (q + 1))]) (st' := []) (M' := M) (N' := N) rfl ?_
        rw [jF_yes (by omega)]
        exact ih (by omega) (by omega)
      · refine r_run 1 (pc' := 66) (ls' := [some (yr 0), some (yi s), some (yi w), some (yi q)]) (st' := [yi q]) (M' := M) (N' := N) rfl ?_
        refine r_iret m_77 rfl f_77_66 ?_
        exact ⟨_, rfl, by rw [jF_no (by omega)], rfl, rfl⟩
theorem c_judge {S : XS} {M N : YM} {s : Int} (hqs : -2147483648 ≤ s ∧ s < 2147483648) (R : Rel M) : rm S 6 77 [yr 0, yi s] M N (fun r M' _ => ∃ v : Int, some (yi v) = r ∧ v = fJudge s M ∧ eqn M M') := by
  refine ⟨xe_77, m_77, Nat.le_of_ble_eq_true rfl, ?_⟩
  refine r_run 2 (pc' := 2) (ls' := [some (yr 0), some (yi s), none, none]) (st' := [yi s, yr 0]) (M' := M) (N' := N) rfl ?_
  refine r_virtual (mj := 108) (b := 0) (as := [yi s]) (rest := []) f_77_2 (by decide) rfl m_108 (by decide) (by decide) (by decide) rfl rfl (Nat.le_of_ble_eq_true rfl) (by omega) (c_refusal hqs R.h) ?_
  rintro _ _ _ ⟨w, rfl, hw, rfl, rfl⟩
  refine r_run 2 (pc' := 7) (ls' := [some (yr 0), some (yi s), some (yi w), none]) (st' := [yi w]) (M' := M) (N' := N) rfl ?_
  refine r_if_eq (pc := 7) f_77_7 (by rw [hw]; unfold hWrong; (repeat' split) <;> omega) (fun h7 => ?_) (fun h7 => ?_)
  · refine r_run 1 (pc' := 13) (ls' := [some (yr 0), some (yi s), some (yi w), none]) (st' := [yr 0]) (M' := M) (N' := N) rfl ?_
    refine r_virtual (mj := 97) (b := 0) (as := []) (rest := []) f_77_13 (by decide) rfl m_97 (by decide) (by decide) (by decide) rfl rfl (Nat.le_of_ble_eq_true rfl) (by omega) (c_can1 R) ?_
    rintro _ M2 _ ⟨v, rfl, ⟨hv, hv01, hat, hBE, hfr, R2, hq, hT⟩, rfl⟩
    refine r_if_ne (pc := 16) f_77_16 (by omega) (fun h16 => ?_) (fun h16 => ?_)
    · refine r_run 2 (pc' := 24) (ls' := [some (yr 0), some (yi s), some (yi w), some (yi 0)]) (st' := []) (M' := M2) (N' := N) rfl ?_
      have hs0 : 0 ≤ s ∧ s < 4 := by unfold hWrong at hw; (repeat' split at hw) <;> omega
      refine r_post (c_judge_l (j := 6) (by omega) hs0 R2.h (hat (by omega)) (Int.le_refl 0) rfl) ?_
      rintro _ _ _ ⟨v', rfl, hv', rfl, rfl⟩
      refine ⟨v', rfl, ?_, hq⟩
      unfold fJudge
      rw [if_neg (by omega), if_neg (by omega), hv', show (fun q => M2 84 (40 * s + q)) = fun q => M 84 (40 * s + q) from funext fun q => by rw [hfr 84 (by omega)]]
    · refine r_run 1 (pc' := 21) (ls' := [some (yr 0), some (yi s), some (yi w), none]) (st' := [yi (-9)]) (M' := M2) (N' := N) rfl ?_
      refine r_iret m_77 rfl f_77_21 ?_
      exact ⟨_, rfl, by unfold fJudge; rw [if_neg (by omega), if_pos (by omega)], hq⟩
  · refine r_run 1 (pc' := 11) (ls' := [some (yr 0), some (yi s), some (yi w), none]) (st' := [yi w]) (M' := M) (N' := N) rfl ?_
    refine r_iret m_77 rfl f_77_11 ?_
    exact ⟨_, rfl, by unfold fJudge; rw [if_pos (by omega)]; exact hw, eqn.refl⟩
theorem m_judge_l {S : XS} {d : Nat} {s w : Int} {O : Int → Int → Int} {M N : YM} (hd : 2 ≤ d) (hs : 0 ≤ s ∧ s < 4) (hH : RH M M) (hA : mAt M O) {j : Nat} : ∀ {q : Int}, 0 ≤ q → q + j = 6 → ry S d 176 30 [some (yr 75), some (yi s), some (yi w), some (yi q)] [] M N (fun r M' N' => ∃ v : Int, some (yi v) = r ∧ v = jF (fun q => M 84 (40 * s + q)) (fun q => -O q 6) (fun q => O 6 q) j q ∧ M = M' ∧ N = N') := by
  induction j with
  | zero =>
    intro q h0 h1
    refine r_run 2 (pc' := 33) (ls' := [some (yr 75), some (yi s), some (yi w), some (yi q)]) (st' := [yi 6, yi q]) (M' := M) (N' := N) rfl ?_
    refine r_icmp_ge (pc := 33) f_176_33 (by omega) (by omega) (fun h33 => ?_) (fun h33 => ?_)
    · refine r_run 1 (pc' := 72) (ls' := [some (yr 75), some (yi s), some (yi w), some (yi q)]) (st' := [yi (-1)]) (M' := M) (N' := N) rfl ?_
      refine r_iret m_176 rfl f_176_72 ?_
      exact ⟨_, rfl, rfl, rfl, rfl⟩
    · exfalso; omega
  | succ j ih =>
    intro q h0 h1
    have hc := (hH s hs.1 hs.2).2.2.2.2 q h0 (by omega)
    have ha := hA.2.1 q ⟨h0, by omega⟩
    have hl := hA.1 q 6 h0 (by omega) (by omega) (by omega)
    have hh := hA.1 6 q (by omega) (by omega) h0 (by omega)
    rw [show 7 * 6 + q = 42 + q by omega] at hh
    refine r_run 2 (pc' := 33) (ls' := [some (yr 75), some (yi s), some (yi w), some (yi q)]) (st' := [yi 6, yi q]) (M' := M) (N' := N) rfl ?_
    refine r_icmp_ge (pc := 33) f_176_33 (by omega) (by omega) (fun h33 => ?_) (fun h33 => ?_)
    · exfalso; omega
    · refine r_run 7 (pc' := 46) (ls' := [some (yr 75), some (yi s), some (yi w), some (yi q)]) (st' := [yi ((40 * s) + q), yr 84]) (M' := M) (N' := N) rfl ?_
      refine r_iald (n := 160) f_176_46 (by decide) (by decide) (by decide) (by omega) ?_
      refine r_run 2 (pc' := 49) (ls' := [some (yr 75), some (yi s), some (yi w), some (yi q)]) (st' := [yi q, yr 75, yi (M 84 ((40 * s) + q))]) (M' := M) (N' := N) rfl ?_
      refine r_virtual (mj := 149) (b := 75) (as := [yi q]) (rest := [yi (M 84 ((40 * s) + q))]) f_176_49 (by decide) rfl m_149 (by decide) (by decide) (by decide) rfl rfl (Nat.le_of_ble_eq_true rfl) (by omega) (m_low (by omega)) ?_
      rintro _ _ _ ⟨v49, rfl, hv49, rfl, rfl⟩
      refine r_run 2 (pc' := 54) (ls' := [some (yr 75), some (yi s), some (yi w), some (yi q)]) (st' := [yi q, yr 75, yi v49, yi (M 84 ((40 * s) + q))]) (M' := M) (N' := N) rfl ?_
      refine r_virtual (mj := 150) (b := 75) (as := [yi q]) (rest := [yi v49, yi (M 84 ((40 * s) + q))]) f_176_54 (by decide) rfl m_150 (by decide) (by decide) (by decide) rfl rfl (Nat.le_of_ble_eq_true rfl) (by omega) (m_high (by omega)) ?_
      rintro _ _ _ ⟨v54, rfl, hv54, rfl, rfl⟩
      refine r_static (mj := 112) (as := [yi (M 84 ((40 * s) + q)), yi v49, yi v54]) (rest := []) f_176_57 (by decide) rfl m_112 rfl rfl rfl (Nat.le_of_ble_eq_true rfl) (by omega) (m_in (by omega) (by omega) (by omega)) ?_
      rintro _ _ _ ⟨v57, rfl, hv57, rfl, rfl⟩
      refine r_if_ne (pc := 60) f_176_60 (by omega) (fun h60 => ?_) (fun h60 => ?_)
      · refine r_run 2 (pc' := 30) (ls' := [some (yr 75), some (yi s), some (yi w), some (yi (q + 1))]) (st' := []) (M' := M) (N' := N) rfl ?_
        rw [jF_yes (by omega)]
        exact ih (by omega) (by omega)
      · refine r_run 1 (pc' := 64) (ls' := [some (yr 75), some (yi s), some (yi w), some (yi q)]) (st' := [yi q]) (M' := M) (N' := N) rfl ?_
        refine r_iret m_176 rfl f_176_64 ?_
        exact ⟨_, rfl, by rw [jF_no (by omega)], rfl, rfl⟩
theorem m_judge {S : XS} {M N : YM} {s : Int} (hqs : -2147483648 ≤ s ∧ s < 2147483648) (R : Rel M) : rm S 4 176 [yr 75, yi s] M N (fun r M' _ => ∃ v : Int, some (yi v) = r ∧ v = fJudge s M ∧ eqn M M') := by
  refine ⟨xe_176, m_176, Nat.le_of_ble_eq_true rfl, ?_⟩
  refine r_run 2 (pc' := 2) (ls' := [some (yr 75), some (yi s), none, none]) (st' := [yi s, yr 75]) (M' := M) (N' := N) rfl ?_
  refine r_virtual (mj := 173) (b := 75) (as := [yi s]) (rest := []) f_176_2 (by decide) rfl m_173 (by decide) (by decide) (by decide) rfl rfl (Nat.le_of_ble_eq_true rfl) (by omega) (m_sheetWrong hqs R.h) ?_
  rintro _ _ _ ⟨w, rfl, hw, rfl, rfl⟩
  refine r_run 2 (pc' := 7) (ls' := [some (yr 75), some (yi s), some (yi w), none]) (st' := [yi w]) (M' := M) (N' := N) rfl ?_
  refine r_if_ne (pc := 7) f_176_7 (by rw [hw]; unfold hWrong; (repeat' split) <;> omega) (fun h7 => ?_) (fun h7 => ?_)
  · refine r_run 1 (pc' := 18) (ls' := [some (yr 75), some (yi s), some (yi w), none]) (st' := [yi w]) (M' := M) (N' := N) rfl ?_
    refine r_if_eq (pc := 18) f_176_18 (by rw [hw]; unfold hWrong; (repeat' split) <;> omega) (fun h18 => ?_) (fun h18 => ?_)
    · refine r_run 1 (pc' := 27) (ls' := [some (yr 75), some (yi s), some (yi w), none]) (st' := [yi (-9)]) (M' := M) (N' := N) rfl ?_
      refine r_iret m_176 rfl f_176_27 ?_
      exfalso; omega
    · refine r_run 2 (pc' := 27) (ls' := [some (yr 75), some (yi s), some (yi w), none]) (st' := [yi w]) (M' := M) (N' := N) rfl ?_
      refine r_iret m_176 rfl f_176_27 ?_
      exact ⟨_, rfl, by unfold fJudge; rw [if_pos (by omega)]; exact hw, eqn.refl⟩
  · refine r_run 1 (pc' := 11) (ls' := [some (yr 75), some (yi s), some (yi w), none]) (st' := [yr 75]) (M' := M) (N' := N) rfl ?_
    refine r_virtual (mj := 148) (b := 75) (as := []) (rest := []) f_176_11 (by decide) rfl m_148 (by decide) (by decide) (by decide) rfl rfl (Nat.le_of_ble_eq_true rfl) (by omega) (m_can1 R) ?_
    rintro _ M2 _ ⟨v, rfl, ⟨hv, hv01, hat, hBE, hfr, R2, hq⟩, rfl⟩
    refine r_if_ne (pc := 14) f_176_14 (by omega) (fun h14 => ?_) (fun h14 => ?_)
    · refine r_run 2 (pc' := 30) (ls' := [some (yr 75), some (yi s), some (yi w), some (yi 0)]) (st' := []) (M' := M2) (N' := N) rfl ?_
      have hs0 : 0 ≤ s ∧ s < 4 := by unfold hWrong at hw; (repeat' split at hw) <;> omega
      refine r_post (m_judge_l (j := 6) (by omega) hs0 R2.h (hat (by omega)) (Int.le_refl 0) rfl) ?_
      rintro _ _ _ ⟨v', rfl, hv', rfl, rfl⟩
      refine ⟨v', rfl, ?_, hq⟩
      unfold fJudge
      rw [if_neg (by omega), if_neg (by omega), hv', show (fun q => M2 84 (40 * s + q)) = fun q => M 84 (40 * s + q) from funext fun q => by rw [hfr 84 (by omega)]]
    · refine r_run 1 (pc' := 18) (ls' := [some (yr 75), some (yi s), some (yi w), none]) (st' := [yi w]) (M' := M2) (N' := N) rfl ?_
      refine r_if_eq (pc := 18) f_176_18 (by rw [hw]; unfold hWrong; (repeat' split) <;> omega) (fun h18 => ?_) (fun h18 => ?_)
      · refine r_run 1 (pc' := 27) (ls' := [some (yr 75), some (yi s), some (yi w), none]) (st' := [yi (-9)]) (M' := M2) (N' := N) rfl ?_
        refine r_iret m_176 rfl f_176_27 ?_
        exact ⟨_, rfl, by unfold fJudge; rw [if_neg (by omega), if_pos (by omega)], hq⟩
      · refine r_run 2 (pc' := 27) (ls' := [some (yr 75), some (yi s), some (yi w), none]) (st' := [yi w]) (M' := M2) (N' := N) rfl ?_
        refine r_iret m_176 rfl f_176_27 ?_
        exact ⟨_, rfl, by unfold fJudge; rw [if_pos (by omega)]; exact hw, hq⟩
theorem p_judge {S : XS} {M N : YM} {s : Int} (hqs : -2147483648 ≤ s ∧ s < 2147483648) (R : Rel M) : pri S 77 176 [yi s] M N := pri_q (fJudge s) (rm_deep (by decide) (c_judge hqs R)) (fun M N R => rm_deep (by decide) (m_judge hqs R)) (fun M' _ e => fJudge_eq e) R
