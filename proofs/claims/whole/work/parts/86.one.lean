/-! one of a text; not; all levels -/
/-- what is below: nothing when five are open -/
def CLo (S : XS) (T : Int → Int) (n : Int) (d mj : Nat) (o : Int) (f : pF) : Prop := (o = 5 ∧ f = pNil) ∨ o < 5 ∧ ∃ g, f = pSh g ∧ gd g ∧ CX S T n d mj (o + 1) g
theorem fr3.yu7 {M : YM} {x : Int} : fr3 M (yu M 27 7 x) := ⟨fun c h1 h2 h3 => yu_rn h1, yu_ne (Or.inl (by decide))⟩
theorem fr3.st {M M' : YM} (h : ∀ c, c ≠ 27 → M' c = M c) : fr3 M M' := ⟨fun c h1 h2 h3 => h c h1, by rw [h 29 (by decide)]⟩
theorem fr3.ad {M M' : YM} (h : ∀ c, c ≠ 29 → c ≠ 30 → M' c = M c) (g : M' 29 3 = M 29 3) : fr3 M M' := ⟨fun c h1 h2 h3 => h c h2 h3, g⟩
theorem drf.st {M M' : YM} {c : List Int} (h : drf M c) (g : ∀ c, c ≠ 27 → M' c = M c) : drf M' c := h.fr (by rw [g 29 (by decide)]) (g 30 (by decide))
theorem cSt.ad {T : Int → Int} {n : Int} {M M' : YM} {i : Nat} (h : cSt T n M i) (g : ∀ c, c ≠ 29 → c ≠ 30 → M' c = M c) : cSt T n M' i := h.fr (g 28 (by decide) (by decide)) (fun k _ => by rw [g 27 (by decide) (by decide)])
theorem cSt.o7 {T : Int → Int} {n : Int} {M : YM} {i : Nat} (h : cSt T n M i) {x : Int} : cSt T n (yu M 27 7 x) i := h.fr (yu_rn (by decide)) (fun k hk => yu_ne (Or.inr hk))
theorem drf.o7 {M : YM} {c : List Int} (h : drf M c) {x : Int} : drf (yu M 27 7 x) c := h.fr (by rw [yu_ne (Or.inl (by decide))]) (yu_rn (by decide))
theorem c_one {S : XS} {T : Int → Int} {n : Int} {d d1 : Nat} {o : Int} {lo la : pF} (ht : tpOk T n) (hd : d1 < d) (h7 : 7 < d) (h05 : 0 ≤ o ∧ o ≤ 5) (hl : CLo S T n d1 13 o lo) (ha : CLo S T n d1 8 o la) : CX S T n d 13 o (pOne (tkK T n) (tkV T n) lo la) := by
  intro M N i c hs hdr ho hc
  have t0 := hs.2.2.2.2.1
  have ki := tkK_in ht i
  refine ⟨xe_13, m_13, Nat.le_of_ble_eq_true rfl, ?_⟩
  refine r_run 3 (pc' := 5) (ls' := [some (yr 27)]) (st' := [yi 2, yi (M 27 5)]) (M' := M) (N' := N) rfl ?_
  refine r_icmp_eq (pc := 5) f_13_5 (by omega) (by omega) (fun h5 => ?_) (fun h5 => ?_)
  · refine r_run 5 (pc' := 25) (ls' := [some (yr 27)]) (st' := [yi 2, yi (M 27 5), yr 29]) (M' := M) (N' := N) rfl ?_
    refine r_icmp_ne (pc := 25) f_13_25 (by omega) (by omega) (fun h25 => ?_) (fun h25 => ?_)
    · refine r_run 4 (pc' := 43) (ls' := [some (yr 27)]) (st' := [yi (10000 + (M 27 6)), yr 29]) (M' := M) (N' := N) rfl ?_
      exfalso; omega
    · refine r_run 3 (pc' := 43) (ls' := [some (yr 27)]) (st' := [yi (M 27 6), yr 29]) (M' := M) (N' := N) rfl ?_
      have hx : M 27 6 = tEnc (tkV T n i) := by
        have e := (tEnc_tk ht i).1 (by omega)
        have hv6 := hs.2.2.2.2.2 (by omega)
        rw [e]; omega
      have lc : c.length < 160 := by have := (tk_ok ht).1 i (by omega); omega
      have s2z := hs
      refine r_virtual (mj := 43) (b := 29) (as := [yi (M 27 6)]) (rest := []) f_13_43 (by decide) rfl m_43 (by decide) (by decide) (by decide) rfl rfl (Nat.le_of_ble_eq_true rfl) (by omega) (c_addX (y := tkV T n i) hdr lc hx) ?_
      rintro _ M2 _ ⟨rfl, ⟨d2, a2, b2⟩, rfl⟩
      refine r_run 1 (pc' := 47) (ls' := [some (yr 27)]) (st' := [yr 27]) (M' := M2) (N' := N) rfl ?_
      refine r_virtual (mj := 15) (b := 27) (as := []) (rest := []) f_13_47 (by decide) rfl m_15 (by decide) (by decide) (by decide) rfl rfl (Nat.le_of_ble_eq_true rfl) (by omega) (c_stepX ht (hs.ad a2).1 (hs.ad a2).2.1 (hs.ad a2).2.2.2.1) ?_
      rintro _ M3 _ ⟨rfl, ⟨s3, f3, u3⟩, rfl⟩
      have t3 := s3.2.2.2.2.1
      refine r_run 1 (pc' := 51) (ls' := [some (yr 27)]) (st' := [yi 1]) (M' := M3) (N' := N) rfl ?_
      refine r_zret m_13 rfl f_13_51 (by omega) ?_
      exact ⟨1, rfl, ⟨Or.inl ⟨rfl, i + 1, tkV T n i :: c, if_pos (by omega), s3, d2.st f3, by rw [u3, a2 27 (by decide) (by decide)]; exact ho⟩, (fr3.ad a2 b2).trans (fr3.st f3)⟩, rfl⟩
  · refine r_run 3 (pc' := 13) (ls' := [some (yr 27)]) (st' := [yi 3, yi (M 27 5)]) (M' := M) (N' := N) rfl ?_
    refine r_icmp_ne (pc := 13) f_13_13 (by omega) (by omega) (fun h13 => ?_) (fun h13 => ?_)
    · refine r_run 3 (pc' := 58) (ls' := [some (yr 27)]) (st' := [yi 45, yi (M 27 5)]) (M' := M) (N' := N) rfl ?_
      refine r_icmp_ne (pc := 58) f_13_58 (by omega) (by omega) (fun h58 => ?_) (fun h58 => ?_)
      · refine r_run 3 (pc' := 110) (ls' := [some (yr 27)]) (st' := [yi 40, yi (M 27 5)]) (M' := M) (N' := N) rfl ?_
        refine r_icmp_ne (pc := 110) f_13_110 (by omega) (by omega) (fun h110 => ?_) (fun h110 => ?_)
        · refine r_run 1 (pc' := 121) (ls' := [some (yr 27)]) (st' := [yi 0]) (M' := M) (N' := N) rfl ?_
          refine r_zret m_13 rfl f_13_121 (by omega) ?_
          exact ⟨0, rfl, ⟨Or.inr ⟨rfl, i, c, (if_neg (show ¬ (tkK T n i = 2 ∨ tkK T n i = 3) by omega)).trans ((if_neg (show ¬ tkK T n i = 45 by omega)).trans (if_neg (show ¬ tkK T n i = 40 by omega))), hs⟩, fr3.refl⟩, rfl⟩
        · refine r_run 1 (pc' := 114) (ls' := [some (yr 27)]) (st' := [yr 27]) (M' := M) (N' := N) rfl ?_
          refine r_virtual (mj := 14) (b := 27) (as := []) (rest := []) f_13_114 (by decide) rfl m_14 (by decide) (by decide) (by decide) rfl rfl (Nat.le_of_ble_eq_true rfl) (by omega) (c_opens (by omega)) ?_
          rintro _ M1 _ ⟨vo, rfl, hvo, rfl⟩
          have wo : vo = 0 ∨ vo = 1 := by omega
          refine r_if_ne (pc := 117) f_13_117 (by omega) (fun h117 => ?_) (fun h117 => ?_)
          · obtain ⟨-, hlt, hM1⟩ : vo = 1 ∧ M 27 7 < 5 ∧ yu M 27 7 (M 27 7 + 1) = M1 := by
              rcases hvo with h | h
              · omega
              · exact h
            have s1 : cSt T n M1 i := by rw [← hM1]; exact hs.o7
            have dd1 : drf M1 c := by rw [← hM1]; exact hdr.o7
            have o1 : M1 27 7 = o + 1 := by rw [← hM1, yu_at, ho]
            have x1 : fr3 M M1 := by rw [← hM1]; exact fr3.yu7
            obtain ⟨g, rfl, gg, hg⟩ : ∃ g, la = pSh g ∧ gd g ∧ CX S T n d1 _ (o + 1) g := by
              rcases ha with ⟨h, -⟩ | h
              · omega
              · exact h.2
            refine r_run 1 (pc' := 123) (ls' := [some (yr 27)]) (st' := [yr 27]) (M' := M1) (N' := N) rfl ?_
            refine r_virtual (mj := 15) (b := 27) (as := []) (rest := []) f_13_123 (by decide) rfl m_15 (by decide) (by decide) (by decide) rfl rfl (Nat.le_of_ble_eq_true rfl) (by omega) (c_stepX ht s1.1 s1.2.1 s1.2.2.2.1) ?_
            rintro _ M2 _ ⟨rfl, ⟨s2, f2, u2⟩, rfl⟩
            have t2 := s2.2.2.2.2.1
            refine r_run 1 (pc' := 127) (ls' := [some (yr 27)]) (st' := [yr 27]) (M' := M2) (N' := N) rfl ?_
            refine r_virtual (mj := 8) (b := 27) (as := []) (rest := []) f_13_127 (by decide) rfl m_8 (by decide) (by decide) (by decide) rfl rfl (Nat.le_of_ble_eq_true rfl) (by omega) (hg M2 N (i + 1) c s2 (dd1.st f2) (u2.trans o1) (by omega)) ?_
            rintro _ M3 _ ⟨v3, rfl, hv3, rfl⟩
            have w3 := cx_v hv3
            refine r_if_eq (pc := 130) f_13_130 (by omega) (fun h130 => ?_) (fun h130 => ?_)
            · refine r_run 1 (pc' := 143) (ls' := [some (yr 27)]) (st' := [yi 0]) (M' := M3) (N' := N) rfl ?_
              refine r_zret m_13 rfl f_13_143 (by omega) ?_
              obtain ⟨i3, c3, q3, s3⟩ := cx_n hv3 (by omega)
              exact ⟨0, rfl, ⟨Or.inr ⟨rfl, i3, c3, (if_neg (show ¬ (tkK T n i = 2 ∨ tkK T n i = 3) by omega)).trans ((if_neg (show ¬ tkK T n i = 45 by omega)).trans ((if_pos (show tkK T n i = 40 by omega)).trans ((if_neg (by show ¬ (g (i + 1) c).1 = true; rw [q3]; exact nf)).trans q3))), s3⟩, x1.trans ((fr3.st f2).trans hv3.2)⟩, rfl⟩
            · obtain ⟨i3, c3, q3, s3, d3, o3⟩ := cx_y hv3 (by omega)
              have t3 := s3.2.2.2.2.1
              have g3 := gg _ _ _ _ q3
              have l3 := g3.2.2.len1 hc
              have ki3 := tkK_in ht i3
              refine r_run 3 (pc' := 139) (ls' := [some (yr 27)]) (st' := [yi 41, yi (M3 27 5)]) (M' := M3) (N' := N) rfl ?_
              refine r_icmp_eq (pc := 139) f_13_139 (by omega) (by omega) (fun h139 => ?_) (fun h139 => ?_)
              · refine r_run 7 (pc' := 155) (ls' := [some (yr 27)]) (st' := [yr 27]) (M' := (yu M3 27 7 ((M3 27 7) - 1))) (N' := N) rfl ?_
                refine r_virtual (mj := 15) (b := 27) (as := []) (rest := []) f_13_155 (by decide) rfl m_15 (by decide) (by decide) (by decide) rfl rfl (Nat.le_of_ble_eq_true rfl) (by omega) (c_stepX ht (s3.o7 (x := M3 27 7 - 1)).1 (s3.o7 (x := M3 27 7 - 1)).2.1 (s3.o7 (x := M3 27 7 - 1)).2.2.2.1) ?_
                rintro _ M4 _ ⟨rfl, ⟨s4, f4, u4⟩, rfl⟩
                have t4 := s4.2.2.2.2.1
                refine r_run 1 (pc' := 159) (ls' := [some (yr 27)]) (st' := [yi 1]) (M' := M4) (N' := N) rfl ?_
                refine r_zret m_13 rfl f_13_159 (by omega) ?_
                exact ⟨1, rfl, ⟨Or.inl ⟨rfl, i3 + 1, c3, (if_neg (show ¬ (tkK T n i = 2 ∨ tkK T n i = 3) by omega)).trans ((if_neg (show ¬ tkK T n i = 45 by omega)).trans ((if_pos (show tkK T n i = 40 by omega)).trans ((if_pos (show (pSh g i c).1 = true by show (g (i + 1) c).1 = true; rw [q3])).trans ((if_pos (by show tkK T n (g (i + 1) c).2.1 = 41; rw [q3]; show tkK T n i3 = 41; omega)).trans (by show (true, (g (i + 1) c).2.1 + 1, (g (i + 1) c).2.2) = _; rw [q3]))))), s4, d3.o7.st f4, by rw [u4, yu_at, o3]; omega⟩, x1.trans ((fr3.st f2).trans (hv3.2.trans (fr3.yu7.trans (fr3.st f4))))⟩, rfl⟩
              · refine r_run 1 (pc' := 143) (ls' := [some (yr 27)]) (st' := [yi 0]) (M' := M3) (N' := N) rfl ?_
                refine r_zret m_13 rfl f_13_143 (by omega) ?_
                exact ⟨0, rfl, ⟨Or.inr ⟨rfl, i3, c3, (if_neg (show ¬ (tkK T n i = 2 ∨ tkK T n i = 3) by omega)).trans ((if_neg (show ¬ tkK T n i = 45 by omega)).trans ((if_pos (show tkK T n i = 40 by omega)).trans ((if_pos (show (pSh g i c).1 = true by show (g (i + 1) c).1 = true; rw [q3])).trans ((if_neg (by show ¬ tkK T n (g (i + 1) c).2.1 = 41; rw [q3]; show ¬ tkK T n i3 = 41; omega)).trans (by show (false, (g (i + 1) c).2.1, (g (i + 1) c).2.2) = _; rw [q3]))))), s3⟩, x1.trans ((fr3.st f2).trans hv3.2)⟩, rfl⟩
          · refine r_run 1 (pc' := 121) (ls' := [some (yr 27)]) (st' := [yi 0]) (M' := M1) (N' := N) rfl ?_
            refine r_zret m_13 rfl f_13_121 (by omega) ?_
            have h55 : o = 5 := by
              rcases hvo with h | h
              · have := h.2.1; omega
              · exfalso; omega
            obtain ⟨rfl, rfl⟩ : o = 5 ∧ la = pNil := by
              rcases ha with h | ⟨h, -⟩
              · exact h
              · exfalso; omega
            have hM1 : M = M1 := by
              rcases hvo with h | h
              · exact h.2.2
              · exfalso; omega
            subst hM1
            exact ⟨0, rfl, ⟨Or.inr ⟨rfl, i, c, (if_neg (show ¬ (tkK T n i = 2 ∨ tkK T n i = 3) by omega)).trans ((if_neg (show ¬ tkK T n i = 45 by omega)).trans ((if_pos (show tkK T n i = 40 by omega)).trans (if_neg (by exact nf)))), hs⟩, fr3.refl⟩, rfl⟩
      · refine r_run 1 (pc' := 62) (ls' := [some (yr 27)]) (st' := [yr 27]) (M' := M) (N' := N) rfl ?_
        refine r_virtual (mj := 14) (b := 27) (as := []) (rest := []) f_13_62 (by decide) rfl m_14 (by decide) (by decide) (by decide) rfl rfl (Nat.le_of_ble_eq_true rfl) (by omega) (c_opens (by omega)) ?_
        rintro _ M1 _ ⟨vo, rfl, hvo, rfl⟩
        have wo : vo = 0 ∨ vo = 1 := by omega
        refine r_if_ne (pc := 65) f_13_65 (by omega) (fun h65 => ?_) (fun h65 => ?_)
        · obtain ⟨-, hlt, hM1⟩ : vo = 1 ∧ M 27 7 < 5 ∧ yu M 27 7 (M 27 7 + 1) = M1 := by
            rcases hvo with h | h
            · omega
            · exact h
          have s1 : cSt T n M1 i := by rw [← hM1]; exact hs.o7
          have dd1 : drf M1 c := by rw [← hM1]; exact hdr.o7
          have o1 : M1 27 7 = o + 1 := by rw [← hM1, yu_at, ho]
          have x1 : fr3 M M1 := by rw [← hM1]; exact fr3.yu7
          obtain ⟨g, rfl, gg, hg⟩ : ∃ g, lo = pSh g ∧ gd g ∧ CX S T n d1 _ (o + 1) g := by
            rcases hl with ⟨h, -⟩ | h
            · omega
            · exact h.2
          refine r_run 1 (pc' := 71) (ls' := [some (yr 27)]) (st' := [yr 27]) (M' := M1) (N' := N) rfl ?_
          refine r_virtual (mj := 15) (b := 27) (as := []) (rest := []) f_13_71 (by decide) rfl m_15 (by decide) (by decide) (by decide) rfl rfl (Nat.le_of_ble_eq_true rfl) (by omega) (c_stepX ht s1.1 s1.2.1 s1.2.2.2.1) ?_
          rintro _ M2 _ ⟨rfl, ⟨s2, f2, u2⟩, rfl⟩
          have t2 := s2.2.2.2.2.1
          refine r_run 1 (pc' := 75) (ls' := [some (yr 27)]) (st' := [yr 27]) (M' := M2) (N' := N) rfl ?_
          refine r_virtual (mj := 13) (b := 27) (as := []) (rest := []) f_13_75 (by decide) rfl m_13 (by decide) (by decide) (by decide) rfl rfl (Nat.le_of_ble_eq_true rfl) (by omega) (hg M2 N (i + 1) c s2 (dd1.st f2) (u2.trans o1) (by omega)) ?_
          rintro _ M3 _ ⟨v3, rfl, hv3, rfl⟩
          have w3 := cx_v hv3
          refine r_if_ne (pc := 78) f_13_78 (by omega) (fun h78 => ?_) (fun h78 => ?_)
          · obtain ⟨i3, c3, q3, s3, d3, o3⟩ := cx_y hv3 (by omega)
            have t3 := s3.2.2.2.2.1
            have g3 := gg _ _ _ _ q3
            have l3 := g3.2.2.len1 hc
            have ki3 := tkK_in ht i3
            refine r_run 9 (pc' := 99) (ls' := [some (yr 27)]) (st' := [yi (-9), yr 29]) (M' := (yu M3 27 7 ((M3 27 7) - 1))) (N' := N) rfl ?_
            refine r_virtual (mj := 43) (b := 29) (as := [yi (-9)]) (rest := []) f_13_99 (by decide) rfl m_43 (by decide) (by decide) (by decide) rfl rfl (Nat.le_of_ble_eq_true rfl) (by omega) (c_addX (y := 19) d3.o7 (by omega) (by decide)) ?_
            rintro _ M4 _ ⟨rfl, ⟨d4, a4, b4⟩, rfl⟩
            refine r_run 1 (pc' := 103) (ls' := [some (yr 27)]) (st' := [yi 1]) (M' := M4) (N' := N) rfl ?_
            refine r_zret m_13 rfl f_13_103 (by omega) ?_
            exact ⟨1, rfl, ⟨Or.inl ⟨rfl, i3, 19 :: c3, (if_neg (show ¬ (tkK T n i = 2 ∨ tkK T n i = 3) by omega)).trans ((if_pos (show tkK T n i = 45 by omega)).trans ((if_pos (show (pSh g i c).1 = true by show (g (i + 1) c).1 = true; rw [q3])).trans (by show (true, (g (i + 1) c).2.1, 19 :: (g (i + 1) c).2.2) = _; rw [q3]))), s3.o7.ad a4, d4, by rw [a4 27 (by decide) (by decide), yu_at, o3]; omega⟩, x1.trans ((fr3.st f2).trans (hv3.2.trans (fr3.yu7.trans (fr3.ad a4 b4))))⟩, rfl⟩
          · refine r_run 1 (pc' := 82) (ls' := [some (yr 27)]) (st' := [yi 0]) (M' := M3) (N' := N) rfl ?_
            refine r_zret m_13 rfl f_13_82 (by omega) ?_
            obtain ⟨i3, c3, q3, s3⟩ := cx_n hv3 (by omega)
            exact ⟨0, rfl, ⟨Or.inr ⟨rfl, i3, c3, (if_neg (show ¬ (tkK T n i = 2 ∨ tkK T n i = 3) by omega)).trans ((if_pos (show tkK T n i = 45 by omega)).trans ((if_neg (by show ¬ (g (i + 1) c).1 = true; rw [q3]; exact nf)).trans q3)), s3⟩, x1.trans ((fr3.st f2).trans hv3.2)⟩, rfl⟩
        · refine r_run 1 (pc' := 69) (ls' := [some (yr 27)]) (st' := [yi 0]) (M' := M1) (N' := N) rfl ?_
          refine r_zret m_13 rfl f_13_69 (by omega) ?_
          have h55 : o = 5 := by
            rcases hvo with h | h
            · have := h.2.1; omega
            · exfalso; omega
          obtain ⟨rfl, rfl⟩ : o = 5 ∧ lo = pNil := by
            rcases hl with h | ⟨h, -⟩
            · exact h
            · exfalso; omega
          have hM1 : M = M1 := by
            rcases hvo with h | h
            · exact h.2.2
            · exfalso; omega
          subst hM1
          exact ⟨0, rfl, ⟨Or.inr ⟨rfl, i, c, (if_neg (show ¬ (tkK T n i = 2 ∨ tkK T n i = 3) by omega)).trans ((if_pos (show tkK T n i = 45 by omega)).trans (if_neg (by exact nf))), hs⟩, fr3.refl⟩, rfl⟩
    · refine r_run 5 (pc' := 25) (ls' := [some (yr 27)]) (st' := [yi 2, yi (M 27 5), yr 29]) (M' := M) (N' := N) rfl ?_
      refine r_icmp_ne (pc := 25) f_13_25 (by omega) (by omega) (fun h25 => ?_) (fun h25 => ?_)
      · refine r_run 4 (pc' := 43) (ls' := [some (yr 27)]) (st' := [yi (10000 + (M 27 6)), yr 29]) (M' := M) (N' := N) rfl ?_
        have hx : 10000 + (M 27 6) = tEnc (tkV T n i) := by
          have e := (tEnc_tk ht i).2 (by omega)
          have hv6 := hs.2.2.2.2.2 (by omega)
          rw [e]; omega
        have lc : c.length < 160 := by have := (tk_ok ht).1 i (by omega); omega
        have s2z := hs
        refine r_virtual (mj := 43) (b := 29) (as := [yi (10000 + (M 27 6))]) (rest := []) f_13_43 (by decide) rfl m_43 (by decide) (by decide) (by decide) rfl rfl (Nat.le_of_ble_eq_true rfl) (by omega) (c_addX (y := tkV T n i) hdr lc hx) ?_
        rintro _ M2 _ ⟨rfl, ⟨d2, a2, b2⟩, rfl⟩
        refine r_run 1 (pc' := 47) (ls' := [some (yr 27)]) (st' := [yr 27]) (M' := M2) (N' := N) rfl ?_
        refine r_virtual (mj := 15) (b := 27) (as := []) (rest := []) f_13_47 (by decide) rfl m_15 (by decide) (by decide) (by decide) rfl rfl (Nat.le_of_ble_eq_true rfl) (by omega) (c_stepX ht (hs.ad a2).1 (hs.ad a2).2.1 (hs.ad a2).2.2.2.1) ?_
        rintro _ M3 _ ⟨rfl, ⟨s3, f3, u3⟩, rfl⟩
        have t3 := s3.2.2.2.2.1
        refine r_run 1 (pc' := 51) (ls' := [some (yr 27)]) (st' := [yi 1]) (M' := M3) (N' := N) rfl ?_
        refine r_zret m_13 rfl f_13_51 (by omega) ?_
        exact ⟨1, rfl, ⟨Or.inl ⟨rfl, i + 1, tkV T n i :: c, if_pos (by omega), s3, d2.st f3, by rw [u3, a2 27 (by decide) (by decide)]; exact ho⟩, (fr3.ad a2 b2).trans (fr3.st f3)⟩, rfl⟩
      · refine r_run 3 (pc' := 43) (ls' := [some (yr 27)]) (st' := [yi (M 27 6), yr 29]) (M' := M) (N' := N) rfl ?_
        exfalso; omega
theorem c_not {S : XS} {T : Int → Int} {n : Int} {d d1 : Nat} {o : Int} {ln sum : pF} (ht : tpOk T n) (hd : d1 < d) (h7 : 7 < d) (h05 : 0 ≤ o ∧ o ≤ 5) (hl : CLo S T n d1 10 o ln) (hgs : gd sum) (h : CX S T n d1 11 o sum) : CX S T n d 10 o (pNot (tkK T n) ln sum) := by
  intro M N i c hs hdr ho hc
  have t0 := hs.2.2.2.2.1
  have ki := tkK_in ht i
  refine ⟨xe_10, m_10, Nat.le_of_ble_eq_true rfl, ?_⟩
  refine r_run 3 (pc' := 6) (ls' := [some (yr 27), none]) (st' := [yi 6, yi (M 27 5)]) (M' := M) (N' := N) rfl ?_
  refine r_icmp_ne (pc := 6) f_10_6 (by omega) (by omega) (fun h6 => ?_) (fun h6 => ?_)
  · refine r_run 1 (pc' := 53) (ls' := [some (yr 27), none]) (st' := [yr 27]) (M' := M) (N' := N) rfl ?_
    refine r_virtual (mj := 11) (b := 27) (as := []) (rest := []) f_10_53 (by decide) rfl m_11 (by decide) (by decide) (by decide) rfl rfl (Nat.le_of_ble_eq_true rfl) (by omega) (h M N i c hs hdr ho hc) ?_
    rintro _ M5 _ ⟨v5, rfl, hv5, rfl⟩
    have w5 := cx_v hv5
    refine r_if_ne (pc := 56) f_10_56 (by omega) (fun h56 => ?_) (fun h56 => ?_)
    · obtain ⟨i5, c5, q5, s5, d5, o5⟩ := cx_y hv5 (by omega)
      have t5 := s5.2.2.2.2.1
      have g5 := hgs _ _ _ _ q5
      have l5 := g5.2.2.len hc
      have ki5 := tkK_in ht i5
      refine r_run 3 (pc' := 67) (ls' := [some (yr 27), none]) (st' := [yi 60, yi (M5 27 5)]) (M' := M5) (N' := N) rfl ?_
      refine r_icmp_eq (pc := 67) f_10_67 (by omega) (by omega) (fun h67 => ?_) (fun h67 => ?_)
      · refine r_run 3 (pc' := 87) (ls' := [some (yr 27), none]) (st' := [yi 60, yi (M5 27 5)]) (M' := M5) (N' := N) rfl ?_
        refine r_icmp_ne (pc := 87) f_10_87 (by omega) (by omega) (fun h87 => ?_) (fun h87 => ?_)
        · refine r_run 2 (pc' := 98) (ls' := [some (yr 27), some (yi (-5))]) (st' := []) (M' := M5) (N' := N) rfl ?_
          have hop : ¬ opC (tkK T n i5) = 0 := by exfalso; omega
          refine r_run 1 (pc' := 99) (ls' := [some (yr 27), some (yi (-5))]) (st' := [yr 27]) (M' := M5) (N' := N) rfl ?_
          refine r_virtual (mj := 15) (b := 27) (as := []) (rest := []) f_10_99 (by decide) rfl m_15 (by decide) (by decide) (by decide) rfl rfl (Nat.le_of_ble_eq_true rfl) (by omega) (c_stepX ht s5.1 s5.2.1 s5.2.2.2.1) ?_
          rintro _ M6 _ ⟨rfl, ⟨s6, f6, u6⟩, rfl⟩
          have t6 := s6.2.2.2.2.1
          refine r_run 1 (pc' := 103) (ls' := [some (yr 27), some (yi (-5))]) (st' := [yr 27]) (M' := M6) (N' := N) rfl ?_
          refine r_virtual (mj := 11) (b := 27) (as := []) (rest := []) f_10_103 (by decide) rfl m_11 (by decide) (by decide) (by decide) rfl rfl (Nat.le_of_ble_eq_true rfl) (by omega) (h M6 N (i5 + 1) c5 s6 (d5.st f6) (u6.trans o5) (by omega)) ?_
          rintro _ M7 _ ⟨v7, rfl, hv7, rfl⟩
          have w7 := cx_v hv7
          refine r_if_ne (pc := 106) f_10_106 (by omega) (fun h106 => ?_) (fun h106 => ?_)
          · obtain ⟨i7, c7, q7, s7, d7, o7⟩ := cx_y hv7 (by omega)
            have t7 := s7.2.2.2.2.1
            have g7 := hgs _ _ _ _ q7
            have l7 := g7.2.2.len1 l5
            refine r_run 3 (pc' := 116) (ls' := [some (yr 27), some (yi (-5))]) (st' := [yi (-5), yr 29]) (M' := M7) (N' := N) rfl ?_
            refine r_virtual (mj := 43) (b := 29) (as := [yi (-5)]) (rest := []) f_10_116 (by decide) rfl m_43 (by decide) (by decide) (by decide) rfl rfl (Nat.le_of_ble_eq_true rfl) (by omega) (c_addX (y := 15) d7 (by omega) (by decide)) ?_
            rintro _ M8 _ ⟨rfl, ⟨d8, a8, b8⟩, rfl⟩
            refine r_run 1 (pc' := 120) (ls' := [some (yr 27), some (yi (-5))]) (st' := [yi 1]) (M' := M8) (N' := N) rfl ?_
            refine r_zret m_10 rfl f_10_120 (by omega) ?_
            exfalso; omega
          · refine r_run 1 (pc' := 110) (ls' := [some (yr 27), some (yi (-5))]) (st' := [yi 0]) (M' := M7) (N' := N) rfl ?_
            refine r_zret m_10 rfl f_10_110 (by omega) ?_
            exfalso; omega
        · refine r_run 3 (pc' := 98) (ls' := [some (yr 27), some (yi (-4))]) (st' := []) (M' := M5) (N' := N) rfl ?_
          have hop : ¬ opC (tkK T n i5) = 0 := by unfold opC; rw [if_pos (by omega)]; decide
          refine r_run 1 (pc' := 99) (ls' := [some (yr 27), some (yi (-4))]) (st' := [yr 27]) (M' := M5) (N' := N) rfl ?_
          refine r_virtual (mj := 15) (b := 27) (as := []) (rest := []) f_10_99 (by decide) rfl m_15 (by decide) (by decide) (by decide) rfl rfl (Nat.le_of_ble_eq_true rfl) (by omega) (c_stepX ht s5.1 s5.2.1 s5.2.2.2.1) ?_
          rintro _ M6 _ ⟨rfl, ⟨s6, f6, u6⟩, rfl⟩
          have t6 := s6.2.2.2.2.1
          refine r_run 1 (pc' := 103) (ls' := [some (yr 27), some (yi (-4))]) (st' := [yr 27]) (M' := M6) (N' := N) rfl ?_
          refine r_virtual (mj := 11) (b := 27) (as := []) (rest := []) f_10_103 (by decide) rfl m_11 (by decide) (by decide) (by decide) rfl rfl (Nat.le_of_ble_eq_true rfl) (by omega) (h M6 N (i5 + 1) c5 s6 (d5.st f6) (u6.trans o5) (by omega)) ?_
          rintro _ M7 _ ⟨v7, rfl, hv7, rfl⟩
          have w7 := cx_v hv7
          refine r_if_ne (pc := 106) f_10_106 (by omega) (fun h106 => ?_) (fun h106 => ?_)
          · obtain ⟨i7, c7, q7, s7, d7, o7⟩ := cx_y hv7 (by omega)
            have t7 := s7.2.2.2.2.1
            have g7 := hgs _ _ _ _ q7
            have l7 := g7.2.2.len1 l5
            refine r_run 3 (pc' := 116) (ls' := [some (yr 27), some (yi (-4))]) (st' := [yi (-4), yr 29]) (M' := M7) (N' := N) rfl ?_
            refine r_virtual (mj := 43) (b := 29) (as := [yi (-4)]) (rest := []) f_10_116 (by decide) rfl m_43 (by decide) (by decide) (by decide) rfl rfl (Nat.le_of_ble_eq_true rfl) (by omega) (c_addX (y := 14) d7 (by omega) (by decide)) ?_
            rintro _ M8 _ ⟨rfl, ⟨d8, a8, b8⟩, rfl⟩
            refine r_run 1 (pc' := 120) (ls' := [some (yr 27), some (yi (-4))]) (st' := [yi 1]) (M' := M8) (N' := N) rfl ?_
            refine r_zret m_10 rfl f_10_120 (by omega) ?_
            have hv_ : opC (tkK T n i5) = 14 := by unfold opC; rw [if_pos (by omega)]
            exact ⟨1, rfl, ⟨Or.inl ⟨rfl, i7, 14 :: c7, (if_neg (show ¬ tkK T n i = 6 by omega)).trans ((if_pos (show (sum i c).1 = true by rw [q5])).trans ((if_neg (by rw [q5]; exact hop)).trans ((if_pos (by rw [q5]; show (sum (i5 + 1) c5).1 = true; rw [q7])).trans (by rw [q5]; show (true, (sum (i5 + 1) c5).2.1, opC (tkK T n i5) :: (sum (i5 + 1) c5).2.2) = _; rw [q7, hv_])))), s7.ad a8, d8, by rw [a8 27 (by decide) (by decide)]; exact o7⟩, hv5.2.trans ((fr3.st f6).trans (hv7.2.trans (fr3.ad a8 b8)))⟩, rfl⟩
          · refine r_run 1 (pc' := 110) (ls' := [some (yr 27), some (yi (-4))]) (st' := [yi 0]) (M' := M7) (N' := N) rfl ?_
            refine r_zret m_10 rfl f_10_110 (by omega) ?_
            obtain ⟨i7, c7, q7, s7⟩ := cx_n hv7 (by omega)
            exact ⟨0, rfl, ⟨Or.inr ⟨rfl, i7, c7, (if_neg (show ¬ tkK T n i = 6 by omega)).trans ((if_pos (show (sum i c).1 = true by rw [q5])).trans ((if_neg (by rw [q5]; exact hop)).trans ((if_neg (by rw [q5]; show ¬ (sum (i5 + 1) c5).1 = true; rw [q7]; exact nf)).trans (by rw [q5]; exact q7)))), s7⟩, hv5.2.trans ((fr3.st f6).trans hv7.2)⟩, rfl⟩
      · refine r_run 3 (pc' := 76) (ls' := [some (yr 27), none]) (st' := [yi 61, yi (M5 27 5)]) (M' := M5) (N' := N) rfl ?_
        refine r_icmp_eq (pc := 76) f_10_76 (by omega) (by omega) (fun h76 => ?_) (fun h76 => ?_)
        · refine r_run 3 (pc' := 87) (ls' := [some (yr 27), none]) (st' := [yi 60, yi (M5 27 5)]) (M' := M5) (N' := N) rfl ?_
          refine r_icmp_ne (pc := 87) f_10_87 (by omega) (by omega) (fun h87 => ?_) (fun h87 => ?_)
          · refine r_run 2 (pc' := 98) (ls' := [some (yr 27), some (yi (-5))]) (st' := []) (M' := M5) (N' := N) rfl ?_
            have hop : ¬ opC (tkK T n i5) = 0 := by unfold opC; rw [if_neg (by omega), if_pos (by omega)]; decide
            refine r_run 1 (pc' := 99) (ls' := [some (yr 27), some (yi (-5))]) (st' := [yr 27]) (M' := M5) (N' := N) rfl ?_
            refine r_virtual (mj := 15) (b := 27) (as := []) (rest := []) f_10_99 (by decide) rfl m_15 (by decide) (by decide) (by decide) rfl rfl (Nat.le_of_ble_eq_true rfl) (by omega) (c_stepX ht s5.1 s5.2.1 s5.2.2.2.1) ?_
            rintro _ M6 _ ⟨rfl, ⟨s6, f6, u6⟩, rfl⟩
            have t6 := s6.2.2.2.2.1
            refine r_run 1 (pc' := 103) (ls' := [some (yr 27), some (yi (-5))]) (st' := [yr 27]) (M' := M6) (N' := N) rfl ?_
            refine r_virtual (mj := 11) (b := 27) (as := []) (rest := []) f_10_103 (by decide) rfl m_11 (by decide) (by decide) (by decide) rfl rfl (Nat.le_of_ble_eq_true rfl) (by omega) (h M6 N (i5 + 1) c5 s6 (d5.st f6) (u6.trans o5) (by omega)) ?_
            rintro _ M7 _ ⟨v7, rfl, hv7, rfl⟩
            have w7 := cx_v hv7
            refine r_if_ne (pc := 106) f_10_106 (by omega) (fun h106 => ?_) (fun h106 => ?_)
            · obtain ⟨i7, c7, q7, s7, d7, o7⟩ := cx_y hv7 (by omega)
              have t7 := s7.2.2.2.2.1
              have g7 := hgs _ _ _ _ q7
              have l7 := g7.2.2.len1 l5
              refine r_run 3 (pc' := 116) (ls' := [some (yr 27), some (yi (-5))]) (st' := [yi (-5), yr 29]) (M' := M7) (N' := N) rfl ?_
              refine r_virtual (mj := 43) (b := 29) (as := [yi (-5)]) (rest := []) f_10_116 (by decide) rfl m_43 (by decide) (by decide) (by decide) rfl rfl (Nat.le_of_ble_eq_true rfl) (by omega) (c_addX (y := 15) d7 (by omega) (by decide)) ?_
              rintro _ M8 _ ⟨rfl, ⟨d8, a8, b8⟩, rfl⟩
              refine r_run 1 (pc' := 120) (ls' := [some (yr 27), some (yi (-5))]) (st' := [yi 1]) (M' := M8) (N' := N) rfl ?_
              refine r_zret m_10 rfl f_10_120 (by omega) ?_
              have hv_ : opC (tkK T n i5) = 15 := by unfold opC; rw [if_neg (by omega), if_pos (by omega)]
              exact ⟨1, rfl, ⟨Or.inl ⟨rfl, i7, 15 :: c7, (if_neg (show ¬ tkK T n i = 6 by omega)).trans ((if_pos (show (sum i c).1 = true by rw [q5])).trans ((if_neg (by rw [q5]; exact hop)).trans ((if_pos (by rw [q5]; show (sum (i5 + 1) c5).1 = true; rw [q7])).trans (by rw [q5]; show (true, (sum (i5 + 1) c5).2.1, opC (tkK T n i5) :: (sum (i5 + 1) c5).2.2) = _; rw [q7, hv_])))), s7.ad a8, d8, by rw [a8 27 (by decide) (by decide)]; exact o7⟩, hv5.2.trans ((fr3.st f6).trans (hv7.2.trans (fr3.ad a8 b8)))⟩, rfl⟩
            · refine r_run 1 (pc' := 110) (ls' := [some (yr 27), some (yi (-5))]) (st' := [yi 0]) (M' := M7) (N' := N) rfl ?_
              refine r_zret m_10 rfl f_10_110 (by omega) ?_
              obtain ⟨i7, c7, q7, s7⟩ := cx_n hv7 (by omega)
              exact ⟨0, rfl, ⟨Or.inr ⟨rfl, i7, c7, (if_neg (show ¬ tkK T n i = 6 by omega)).trans ((if_pos (show (sum i c).1 = true by rw [q5])).trans ((if_neg (by rw [q5]; exact hop)).trans ((if_neg (by rw [q5]; show ¬ (sum (i5 + 1) c5).1 = true; rw [q7]; exact nf)).trans (by rw [q5]; exact q7)))), s7⟩, hv5.2.trans ((fr3.st f6).trans hv7.2)⟩, rfl⟩
          · refine r_run 3 (pc' := 98) (ls' := [some (yr 27), some (yi (-4))]) (st' := []) (M' := M5) (N' := N) rfl ?_
            have hop : ¬ opC (tkK T n i5) = 0 := by exfalso; omega
            refine r_run 1 (pc' := 99) (ls' := [some (yr 27), some (yi (-4))]) (st' := [yr 27]) (M' := M5) (N' := N) rfl ?_
            refine r_virtual (mj := 15) (b := 27) (as := []) (rest := []) f_10_99 (by decide) rfl m_15 (by decide) (by decide) (by decide) rfl rfl (Nat.le_of_ble_eq_true rfl) (by omega) (c_stepX ht s5.1 s5.2.1 s5.2.2.2.1) ?_
            rintro _ M6 _ ⟨rfl, ⟨s6, f6, u6⟩, rfl⟩
            have t6 := s6.2.2.2.2.1
            refine r_run 1 (pc' := 103) (ls' := [some (yr 27), some (yi (-4))]) (st' := [yr 27]) (M' := M6) (N' := N) rfl ?_
            refine r_virtual (mj := 11) (b := 27) (as := []) (rest := []) f_10_103 (by decide) rfl m_11 (by decide) (by decide) (by decide) rfl rfl (Nat.le_of_ble_eq_true rfl) (by omega) (h M6 N (i5 + 1) c5 s6 (d5.st f6) (u6.trans o5) (by omega)) ?_
            rintro _ M7 _ ⟨v7, rfl, hv7, rfl⟩
            have w7 := cx_v hv7
            refine r_if_ne (pc := 106) f_10_106 (by omega) (fun h106 => ?_) (fun h106 => ?_)
            · obtain ⟨i7, c7, q7, s7, d7, o7⟩ := cx_y hv7 (by omega)
              have t7 := s7.2.2.2.2.1
              have g7 := hgs _ _ _ _ q7
              have l7 := g7.2.2.len1 l5
              refine r_run 3 (pc' := 116) (ls' := [some (yr 27), some (yi (-4))]) (st' := [yi (-4), yr 29]) (M' := M7) (N' := N) rfl ?_
              refine r_virtual (mj := 43) (b := 29) (as := [yi (-4)]) (rest := []) f_10_116 (by decide) rfl m_43 (by decide) (by decide) (by decide) rfl rfl (Nat.le_of_ble_eq_true rfl) (by omega) (c_addX (y := 14) d7 (by omega) (by decide)) ?_
              rintro _ M8 _ ⟨rfl, ⟨d8, a8, b8⟩, rfl⟩
              refine r_run 1 (pc' := 120) (ls' := [some (yr 27), some (yi (-4))]) (st' := [yi 1]) (M' := M8) (N' := N) rfl ?_
              refine r_zret m_10 rfl f_10_120 (by omega) ?_
              exfalso; omega
            · refine r_run 1 (pc' := 110) (ls' := [some (yr 27), some (yi (-4))]) (st' := [yi 0]) (M' := M7) (N' := N) rfl ?_
              refine r_zret m_10 rfl f_10_110 (by omega) ?_
              exfalso; omega
        · refine r_run 1 (pc' := 80) (ls' := [some (yr 27), none]) (st' := [yi 1]) (M' := M5) (N' := N) rfl ?_
          refine r_zret m_10 rfl f_10_80 (by omega) ?_
          exact ⟨1, rfl, ⟨Or.inl ⟨rfl, i5, c5, (if_neg (show ¬ tkK T n i = 6 by omega)).trans ((if_pos (show (sum i c).1 = true by rw [q5])).trans ((if_pos (by rw [q5]; show opC (tkK T n i5) = 0; unfold opC; rw [if_neg (by omega), if_neg (by omega)])).trans q5)), s5, d5, o5⟩, hv5.2⟩, rfl⟩
    · refine r_run 1 (pc' := 60) (ls' := [some (yr 27), none]) (st' := [yi 0]) (M' := M5) (N' := N) rfl ?_
      refine r_zret m_10 rfl f_10_60 (by omega) ?_
      obtain ⟨i5, c5, q5, s5⟩ := cx_n hv5 (by omega)
      exact ⟨0, rfl, ⟨Or.inr ⟨rfl, i5, c5, (if_neg (show ¬ tkK T n i = 6 by omega)).trans ((if_neg (by rw [q5]; exact nf)).trans q5), s5⟩, hv5.2⟩, rfl⟩
  · refine r_run 1 (pc' := 10) (ls' := [some (yr 27), none]) (st' := [yr 27]) (M' := M) (N' := N) rfl ?_
    refine r_virtual (mj := 14) (b := 27) (as := []) (rest := []) f_10_10 (by decide) rfl m_14 (by decide) (by decide) (by decide) rfl rfl (Nat.le_of_ble_eq_true rfl) (by omega) (c_opens (by omega)) ?_
    rintro _ M1 _ ⟨vo, rfl, hvo, rfl⟩
    have wo : vo = 0 ∨ vo = 1 := by omega
    refine r_if_ne (pc := 13) f_10_13 (by omega) (fun h13 => ?_) (fun h13 => ?_)
    · obtain ⟨-, hlt, hM1⟩ : vo = 1 ∧ M 27 7 < 5 ∧ yu M 27 7 (M 27 7 + 1) = M1 := by
        rcases hvo with h | h
        · omega
        · exact h
      have s1 : cSt T n M1 i := by rw [← hM1]; exact hs.o7
      have dd1 : drf M1 c := by rw [← hM1]; exact hdr.o7
      have o1 : M1 27 7 = o + 1 := by rw [← hM1, yu_at, ho]
      have x1 : fr3 M M1 := by rw [← hM1]; exact fr3.yu7
      obtain ⟨g, rfl, gg, hg⟩ : ∃ g, ln = pSh g ∧ gd g ∧ CX S T n d1 _ (o + 1) g := by
        rcases hl with ⟨h, -⟩ | h
        · omega
        · exact h.2
      refine r_run 1 (pc' := 19) (ls' := [some (yr 27), none]) (st' := [yr 27]) (M' := M1) (N' := N) rfl ?_
      refine r_virtual (mj := 15) (b := 27) (as := []) (rest := []) f_10_19 (by decide) rfl m_15 (by decide) (by decide) (by decide) rfl rfl (Nat.le_of_ble_eq_true rfl) (by omega) (c_stepX ht s1.1 s1.2.1 s1.2.2.2.1) ?_
      rintro _ M2 _ ⟨rfl, ⟨s2, f2, u2⟩, rfl⟩
      have t2 := s2.2.2.2.2.1
      refine r_run 1 (pc' := 23) (ls' := [some (yr 27), none]) (st' := [yr 27]) (M' := M2) (N' := N) rfl ?_
      refine r_virtual (mj := 10) (b := 27) (as := []) (rest := []) f_10_23 (by decide) rfl m_10 (by decide) (by decide) (by decide) rfl rfl (Nat.le_of_ble_eq_true rfl) (by omega) (hg M2 N (i + 1) c s2 (dd1.st f2) (u2.trans o1) (by omega)) ?_
      rintro _ M3 _ ⟨v3, rfl, hv3, rfl⟩
      have w3 := cx_v hv3
      refine r_if_ne (pc := 26) f_10_26 (by omega) (fun h26 => ?_) (fun h26 => ?_)
      · obtain ⟨i3, c3, q3, s3, d3, o3⟩ := cx_y hv3 (by omega)
        have t3 := s3.2.2.2.2.1
        have g3 := gg _ _ _ _ q3
        have l3 := g3.2.2.len1 hc
        have ki3 := tkK_in ht i3
        refine r_run 9 (pc' := 47) (ls' := [some (yr 27), none]) (st' := [yi (-3), yr 29]) (M' := (yu M3 27 7 ((M3 27 7) - 1))) (N' := N) rfl ?_
        refine r_virtual (mj := 43) (b := 29) (as := [yi (-3)]) (rest := []) f_10_47 (by decide) rfl m_43 (by decide) (by decide) (by decide) rfl rfl (Nat.le_of_ble_eq_true rfl) (by omega) (c_addX (y := 13) d3.o7 (by omega) (by decide)) ?_
        rintro _ M4 _ ⟨rfl, ⟨d4, a4, b4⟩, rfl⟩
        refine r_run 1 (pc' := 51) (ls' := [some (yr 27), none]) (st' := [yi 1]) (M' := M4) (N' := N) rfl ?_
        refine r_zret m_10 rfl f_10_51 (by omega) ?_
        exact ⟨1, rfl, ⟨Or.inl ⟨rfl, i3, 13 :: c3, (if_pos (show tkK T n i = 6 by omega)).trans ((if_pos (show (pSh g i c).1 = true by show (g (i + 1) c).1 = true; rw [q3])).trans (by show (true, (g (i + 1) c).2.1, 13 :: (g (i + 1) c).2.2) = _; rw [q3])), s3.o7.ad a4, d4, by rw [a4 27 (by decide) (by decide), yu_at, o3]; omega⟩, x1.trans ((fr3.st f2).trans (hv3.2.trans (fr3.yu7.trans (fr3.ad a4 b4))))⟩, rfl⟩
      · refine r_run 1 (pc' := 30) (ls' := [some (yr 27), none]) (st' := [yi 0]) (M' := M3) (N' := N) rfl ?_
        refine r_zret m_10 rfl f_10_30 (by omega) ?_
        obtain ⟨i3, c3, q3, s3⟩ := cx_n hv3 (by omega)
        exact ⟨0, rfl, ⟨Or.inr ⟨rfl, i3, c3, (if_pos (show tkK T n i = 6 by omega)).trans ((if_neg (by show ¬ (g (i + 1) c).1 = true; rw [q3]; exact nf)).trans q3), s3⟩, x1.trans ((fr3.st f2).trans hv3.2)⟩, rfl⟩
    · refine r_run 1 (pc' := 17) (ls' := [some (yr 27), none]) (st' := [yi 0]) (M' := M1) (N' := N) rfl ?_
      refine r_zret m_10 rfl f_10_17 (by omega) ?_
      have h55 : o = 5 := by
        rcases hvo with h | h
        · have := h.2.1; omega
        · exfalso; omega
      obtain ⟨rfl, rfl⟩ : o = 5 ∧ ln = pNil := by
        rcases hl with h | ⟨h, -⟩
        · exact h
        · exfalso; omega
      have hM1 : M = M1 := by
        rcases hvo with h | h
        · exact h.2.2
        · exfalso; omega
      subst hM1
      exact ⟨0, rfl, ⟨Or.inr ⟨rfl, i, c, (if_pos (show tkK T n i = 6 by omega)).trans (if_neg (by exact nf)), hs⟩, fr3.refl⟩, rfl⟩
theorem CX.deep {S : XS} {T : Int → Int} {n : Int} {d d2 mj : Nat} {o : Int} {f : pF} (h : d ≤ d2) (k : CX S T n d mj o f) : CX S T n d2 mj o f := fun M N i c h1 h2 h3 h4 => rm_deep h (k M N i c h1 h2 h3 h4)
theorem CLo.deep {S : XS} {T : Int → Int} {n : Int} {d d2 mj : Nat} {o : Int} {f : pF} (h : d ≤ d2) (k : CLo S T n d mj o f) : CLo S T n d2 mj o f := by
  rcases k with k | ⟨k0, g, k1, k2, k3⟩
  · exact Or.inl k
  · exact Or.inr ⟨k0, g, k1, k2, k3.deep h⟩
theorem c_lev {S : XS} {T : Int → Int} {n : Int} {d : Nat} {o : Int} {k : Nat} (ht : tpOk T n) (h7 : 7 < d) (h05 : 0 ≤ o ∧ o ≤ 5) (h1 : CLo S T n (d - 1) 13 o (lwF (tkK T n) (tkV T n) k).1) (h2 : CLo S T n (d - 1) 10 o (lwF (tkK T n) (tkV T n) k).2.1) (h3 : CLo S T n (d - 1) 8 o (lwF (tkK T n) (tkV T n) k).2.2) :
    CX S T n d 13 o (mkOne (tkK T n) (tkV T n) (lwF (tkK T n) (tkV T n) k).1 (lwF (tkK T n) (tkV T n) k).2.2) ∧ CX S T n (d + 3) 10 o (mkNot (tkK T n) (tkV T n) (lwF (tkK T n) (tkV T n) k).1 (lwF (tkK T n) (tkV T n) k).2.1 (lwF (tkK T n) (tkV T n) k).2.2) ∧ CX S T n (d + 5) 8 o (mkAny (tkK T n) (tkV T n) (lwF (tkK T n) (tkV T n) k).1 (lwF (tkK T n) (tkV T n) k).2.1 (lwF (tkK T n) (tkV T n) k).2.2) := by
  obtain ⟨g1, g2, g3, g4, g5, g6⟩ := mk_gd (tk_ok ht) k
  have a1 := c_one ht (by omega) h7 h05 h1 h3
  have a2 := c_term (d := d + 1) ht (by omega) (by omega) g1 a1
  have a3 := c_sum (d := d + 2) ht (by omega) (by omega) g2 a2
  have a4 := c_not (d := d + 3) ht (by omega) (by omega) h05 (h2.deep (show d - 1 ≤ d + 2 by omega)) g3 a3
  have a5 := c_all (d := d + 4) ht (by omega) (by omega) g4 a4
  have a6 := c_any (d := d + 5) ht (by omega) (by omega) g5 a5
  exact ⟨a1, a4, a6⟩
theorem c_low {S : XS} {T : Int → Int} {n : Int} (ht : tpOk T n) {k : Nat} : k ≤ 5 → CLo S T n (7 + 6 * k) 13 (5 - (k : Int)) (lwF (tkK T n) (tkV T n) k).1 ∧ CLo S T n (7 + 6 * k) 10 (5 - (k : Int)) (lwF (tkK T n) (tkV T n) k).2.1 ∧ CLo S T n (7 + 6 * k) 8 (5 - (k : Int)) (lwF (tkK T n) (tkV T n) k).2.2 := by
  induction k with
  | zero => intro _; exact ⟨Or.inl ⟨rfl, rfl⟩, Or.inl ⟨rfl, rfl⟩, Or.inl ⟨rfl, rfl⟩⟩
  | succ k ih =>
    intro hk
    obtain ⟨h1, h2, h3⟩ := ih (by omega)
    obtain ⟨a1, a2, a3⟩ := c_lev (d := 8 + 6 * k) ht (by omega) (by omega) (h1.deep (by omega)) (h2.deep (by omega)) (h3.deep (by omega))
    obtain ⟨g1, g2, g3, g4, g5, g6⟩ := mk_gd (tk_ok ht) k
    have eo : (5 : Int) - ((k + 1 : Nat) : Int) + 1 = 5 - (k : Int) := by omega
    exact ⟨Or.inr ⟨by omega, _, rfl, g1, by rw [eo]; exact a1.deep (by omega)⟩, Or.inr ⟨by omega, _, rfl, g4, by rw [eo]; exact a2.deep (by omega)⟩, Or.inr ⟨by omega, _, rfl, g6, by rw [eo]; exact a3.deep (by omega)⟩⟩
theorem c_gE {S : XS} {T : Int → Int} {n : Int} (ht : tpOk T n) : CX S T n 43 8 0 (gE (tkK T n) (tkV T n)) := by
  obtain ⟨h1, h2, h3⟩ := @c_low S T n ht 5 (by decide)
  exact (c_lev (d := 38) (k := 5) (o := 0) ht (by decide) (by decide) h1 h2 h3).2.2
