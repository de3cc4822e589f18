/-! the reference's spans -/
/-- the reference's sayings: of, from, up to -/
def mSy (M : YM) (O F U : Int → Int) (n : Int) : Prop := M 75 0 = n ∧ (0 ≤ M 75 4 ∧ M 75 4 ≤ 99) ∧ ∀ s, 0 ≤ s → s < n → sOk (M 76 (5 * s)) (M 76 (5 * s + 4)) (M 76 (5 * s + 2)) (M 76 (5 * s + 3)) ∧ M 76 (5 * s + 1) = O s ∧ in6 (O s) ∧ sFrom (M 76 (5 * s)) (M 76 (5 * s + 4)) (M 76 (5 * s + 2)) (M 76 (5 * s + 3)) (M 75 4) = F s ∧ sUpTo (M 76 (5 * s)) (M 76 (5 * s + 4)) (M 76 (5 * s + 2)) (M 76 (5 * s + 3)) (M 75 4) = U s ∧ in9 (F s) ∧ in9 (U s)
theorem mSy.fr {M M' : YM} {O F U : Int → Int} {n : Int} (h : mSy M O F U n) (g5 : ∀ k, k = 0 ∨ k = 4 → M' 75 k = M 75 k) (g6 : M' 76 = M 76) : mSy M' O F U n := by
  obtain ⟨h1, h2, h3⟩ := h
  refine ⟨by rw [g5 0 (by omega)]; exact h1, by rw [g5 4 (by omega)]; exact h2, fun s s0 s1 => ?_⟩
  rw [g6, g5 4 (by omega)]
  exact h3 s s0 s1
theorem m_leaves_a {S : XS} {d : Nat} {w : Int} {N : YM} {Q : Option YV → YM → YM → Prop} {j : Nat} : ∀ {k : Int} {M : YM}, 0 ≤ k → k + j = 6 → (∀ q, 0 ≤ q → q < k → M 90 q = 0 ∧ M 91 q = 999) → (∀ B E, (∀ q, in6 q → B q = 0 ∧ E q = 999) → ry S d 145 30 [some (yr 75), some (yi w), some (yi 6), none, none] [] (yrow (yrow M 90 B) 91 E) N Q) → ry S d 145 2 [some (yr 75), some (yi w), some (yi k), none, none] [] M N Q := by
  induction j with
  | zero =>
    intro k M h0 h1 hr kk
    refine r_run 2 (pc' := 5) (ls' := [some (yr 75), some (yi w), some (yi k), none, none]) (st' := [yi 6, yi k]) (M' := M) (N' := N) rfl ?_
    refine r_icmp_ge (pc := 5) f_145_5 (by omega) (by omega) (fun h5 => ?_) (fun h5 => ?_)
    · have hb : k = 6 := by omega
      subst hb
      have := kk (M 90) (M 91) (fun q hq => hr q hq.1 (by omega))
      rw [yrow_self, yrow_self] at this
      exact this
    · exfalso; omega
  | succ j ih =>
    intro k M h0 h1 hr kk
    refine r_run 2 (pc' := 5) (ls' := [some (yr 75), some (yi w), some (yi k), none, none]) (st' := [yi 6, yi k]) (M' := M) (N' := N) rfl ?_
    refine r_icmp_ge (pc := 5) f_145_5 (by omega) (by omega) (fun h5 => ?_) (fun h5 => ?_)
    · exfalso; omega
    · refine r_run 4 (pc' := 14) (ls' := [some (yr 75), some (yi w), some (yi k), none, none]) (st' := [yi 0, yi k, yr 90]) (M' := M) (N' := N) rfl ?_
      refine r_iast (n := 6) f_145_14 (by decide) (by decide) (by decide) (by omega) ?_
      refine r_run 4 (pc' := 23) (ls' := [some (yr 75), some (yi w), some (yi k), none, none]) (st' := [yi 999, yi k, yr 91]) (M' := (yu M 90 k 0)) (N' := N) rfl ?_
      refine r_iast (n := 6) f_145_23 (by decide) (by decide) (by decide) (by omega) ?_
      refine r_run 2 (pc' := 2) (ls' := [some (yr 75), some (yi w), some (yi (k + 1)), none, none]) (st' := []) (M' := (yu (yu M 90 k 0) 91 k 999)) (N' := N) rfl ?_
      rw [yu_row, yu_row, yrow_ne (show (91 : Int) ≠ 90 by decide)]
      refine ih (by omega) (by omega) (fun q q0 q1 => ?_) (fun B E hBE => ?_)
      · rw [yrow_ne (show (90 : Int) ≠ 91 by decide), yrow_at, yrow_at]
        by_cases hc : q = k
        · rw [hc, up_at, up_at]; exact ⟨rfl, rfl⟩
        · rw [up_ne hc, up_ne hc]; exact hr q q0 (by omega)
      · rw [yrow_comm (show (91 : Int) ≠ 90 by decide), yrow_row, yrow_row]
        exact kk B E hBE
theorem m_leaves_l {S : XS} {d : Nat} {w n : Int} {N : YM} {O F U : Int → Int} (hd : 2 ≤ d) (hn10 : n ≤ 10) {j : Nat} : ∀ {s : Int} {M : YM} {l3 l4 : Option YV}, 0 ≤ s → s + j = n → mSy M O F U n → (∀ q, in6 q → in9 (M 90 q)) → (∀ q, in6 q → in9 (M 91 q)) → ry S d 145 32 [some (yr 75), some (yi w), some (yi s), l3, l4] [] M N (fun r M' N' => none = r ∧ yrow (yrow M 90 (lvB O F (bit w) j s (M 90))) 91 (lvE O U (bit w) j s (M 91)) = M' ∧ N = N') := by
  induction j with
  | zero =>
    intro s M l3 l4 h0 h1 hS hB hE
    obtain ⟨g1, g2, -⟩ := id hS
    refine r_run 3 (pc' := 37) (ls' := [some (yr 75), some (yi w), some (yi s), l3, l4]) (st' := [yi (M 75 0), yi s]) (M' := M) (N' := N) rfl ?_
    refine r_icmp_ge (pc := 37) f_145_37 (by omega) (by omega) (fun h37 => ?_) (fun h37 => ?_)
    · refine r_vret m_145 rfl f_145_150 ?_
      exact ⟨rfl, by show yrow (yrow M 90 (M 90)) 91 (M 91) = M; rw [yrow_self, yrow_self], rfl⟩
    · exfalso; omega
  | succ j ih =>
    intro s M l3 l4 h0 h1 hS hB hE
    obtain ⟨g1, g2, g3⟩ := id hS
    obtain ⟨o1, o2, o3, o4, o5, o6, o7⟩ := g3 s h0 (by omega)
    have b0 := hB (O s) o3
    have b1 := hE (O s) o3
    rw [← o2] at b0 b1 o3
    refine r_run 3 (pc' := 37) (ls' := [some (yr 75), some (yi w), some (yi s), l3, l4]) (st' := [yi (M 75 0), yi s]) (M' := M) (N' := N) rfl ?_
    refine r_icmp_ge (pc := 37) f_145_37 (by omega) (by omega) (fun h37 => ?_) (fun h37 => ?_)
    · exfalso; omega
    · refine r_run 7 (pc' := 49) (ls' := [some (yr 75), some (yi w), some (yi s), l3, l4]) (st' := [yi ((5 * s) + 1), yr 76]) (M' := M) (N' := N) rfl ?_
      refine r_iald (n := 50) f_145_49 (by decide) (by decide) (by decide) (by omega) ?_
      refine r_run 6 (pc' := 56) (ls' := [some (yr 75), some (yi w), some (yi s), some (yi (M 76 ((5 * s) + 1))), l4]) (st' := [yi ((Int32.ofInt ((Int32.ofInt w >>> (Int32.ofInt s &&& 31)).toInt) &&& Int32.ofInt 1).toInt)]) (M' := M) (N' := N) rfl ?_
      refine r_if_ne (pc := 56) f_145_56 ⟨Int32.le_toInt _, Int32.toInt_lt _⟩ (fun h56 => ?_) (fun h56 => ?_)
      · refine r_run 6 (pc' := 73) (ls' := [some (yr 75), some (yi w), some (yi s), some (yi (M 76 ((5 * s) + 1))), some (yi 0)]) (st' := [yi 0, yi (M 76 ((5 * s) + 1)), yr 90]) (M' := M) (N' := N) rfl ?_
        refine r_if_eq (pc := 73) f_145_73 (by omega) (fun h73 => ?_) (fun h73 => ?_)
        · refine r_run 3 (pc' := 103) (ls' := [some (yr 75), some (yi w), some (yi s), some (yi (M 76 ((5 * s) + 1))), some (yi 0)]) (st' := [yi (M 76 ((5 * s) + 1)), yr 90, yi (M 76 ((5 * s) + 1)), yr 90]) (M' := M) (N' := N) rfl ?_
          refine r_iald (n := 6) f_145_103 (by decide) (by decide) (by decide) (by omega) ?_
          refine r_iast (n := 6) f_145_104 (by decide) (by decide) (by decide) (by omega) ?_
          have f3 : ∀ c k, c ≠ 90 → (yu M 90 (M 76 ((5 * s) + 1)) (M 90 (M 76 ((5 * s) + 1)))) c k = M c k := fun c k hc => yu_ne (by omega)
          have f4 : ∀ k, (yu M 90 (M 76 ((5 * s) + 1)) (M 90 (M 76 ((5 * s) + 1)))) 91 k = M 91 k := fun k => yu_ne (by omega)
          refine r_run 4 (pc' := 112) (ls' := [some (yr 75), some (yi w), some (yi s), some (yi (M 76 ((5 * s) + 1))), some (yi 0)]) (st' := [yi 0, yi (M 76 ((5 * s) + 1)), yr 91]) (M' := (yu M 90 (M 76 ((5 * s) + 1)) (M 90 (M 76 ((5 * s) + 1))))) (N' := N) rfl ?_
          refine r_if_eq (pc := 112) f_145_112 (by omega) (fun h112 => ?_) (fun h112 => ?_)
          · refine r_run 3 (pc' := 142) (ls' := [some (yr 75), some (yi w), some (yi s), some (yi (M 76 ((5 * s) + 1))), some (yi 0)]) (st' := [yi (M 76 ((5 * s) + 1)), yr 91, yi (M 76 ((5 * s) + 1)), yr 91]) (M' := (yu M 90 (M 76 ((5 * s) + 1)) (M 90 (M 76 ((5 * s) + 1))))) (N' := N) rfl ?_
            refine r_iald (n := 6) f_145_142 (by decide) (by decide) (by decide) (by omega) ?_
            refine r_iast (n := 6) f_145_143 (by decide) (by decide) (by decide) (by omega) ?_
            refine r_run 2 (pc' := 32) (ls' := [some (yr 75), some (yi w), some (yi (s + 1)), some (yi (M 76 ((5 * s) + 1))), some (yi 0)]) (st' := []) (M' := (yu (yu M 90 (M 76 ((5 * s) + 1)) (M 90 (M 76 ((5 * s) + 1)))) 91 (M 76 ((5 * s) + 1)) (M 91 (M 76 ((5 * s) + 1))))) (N' := N) rfl ?_
            have hb : ¬ bit w s = 0 := h56
            rw [lvB_no hb, lvE_no hb]
            rw [yu_self, yu_self]
            exact ih (by omega) (by omega) hS hB hE
          · exact absurd h112 (by decide)
        · exact absurd h73 (by decide)
      · refine r_run 7 (pc' := 73) (ls' := [some (yr 75), some (yi w), some (yi s), some (yi (M 76 ((5 * s) + 1))), some (yi 1)]) (st' := [yi 1, yi (M 76 ((5 * s) + 1)), yr 90]) (M' := M) (N' := N) rfl ?_
        refine r_if_eq (pc := 73) f_145_73 (by omega) (fun h73 => ?_) (fun h73 => ?_)
        · exact absurd h73 (by decide)
        · refine r_run 2 (pc' := 78) (ls' := [some (yr 75), some (yi w), some (yi s), some (yi (M 76 ((5 * s) + 1))), some (yi 1)]) (st' := [yi s, yr 75, yi (M 76 ((5 * s) + 1)), yr 90]) (M' := M) (N' := N) rfl ?_
          refine r_virtual (mj := 140) (b := 75) (as := [yi s]) (rest := [yi (M 76 ((5 * s) + 1)), yr 90]) f_145_78 (by decide) rfl m_140 (by decide) (by decide) (by decide) rfl rfl (Nat.le_of_ble_eq_true rfl) (by omega) (m_fromOf (by omega) o1 g2) ?_
          rintro _ _ _ ⟨v78, rfl, hv78, rfl, rfl⟩
          rw [o4] at hv78
          refine r_run 3 (pc' := 86) (ls' := [some (yr 75), some (yi w), some (yi s), some (yi (M 76 ((5 * s) + 1))), some (yi 1)]) (st' := [yi (M 76 ((5 * s) + 1)), yr 90, yi v78, yi (M 76 ((5 * s) + 1)), yr 90]) (M' := M) (N' := N) rfl ?_
          refine r_iald (n := 6) f_145_86 (by decide) (by decide) (by decide) (by omega) ?_
          refine r_icmp_le (pc := 87) f_145_87 (by omega) (by omega) (fun h87 => ?_) (fun h87 => ?_)
          · refine r_run 3 (pc' := 103) (ls' := [some (yr 75), some (yi w), some (yi s), some (yi (M 76 ((5 * s) + 1))), some (yi 1)]) (st' := [yi (M 76 ((5 * s) + 1)), yr 90, yi (M 76 ((5 * s) + 1)), yr 90]) (M' := M) (N' := N) rfl ?_
            refine r_iald (n := 6) f_145_103 (by decide) (by decide) (by decide) (by omega) ?_
            refine r_iast (n := 6) f_145_104 (by decide) (by decide) (by decide) (by omega) ?_
            have f3 : ∀ c k, c ≠ 90 → (yu M 90 (M 76 ((5 * s) + 1)) (M 90 (M 76 ((5 * s) + 1)))) c k = M c k := fun c k hc => yu_ne (by omega)
            have f4 : ∀ k, (yu M 90 (M 76 ((5 * s) + 1)) (M 90 (M 76 ((5 * s) + 1)))) 91 k = M 91 k := fun k => yu_ne (by omega)
            refine r_run 4 (pc' := 112) (ls' := [some (yr 75), some (yi w), some (yi s), some (yi (M 76 ((5 * s) + 1))), some (yi 1)]) (st' := [yi 1, yi (M 76 ((5 * s) + 1)), yr 91]) (M' := (yu M 90 (M 76 ((5 * s) + 1)) (M 90 (M 76 ((5 * s) + 1))))) (N' := N) rfl ?_
            refine r_if_eq (pc := 112) f_145_112 (by omega) (fun h112 => ?_) (fun h112 => ?_)
            · exact absurd h112 (by decide)
            · refine r_run 2 (pc' := 117) (ls' := [some (yr 75), some (yi w), some (yi s), some (yi (M 76 ((5 * s) + 1))), some (yi 1)]) (st' := [yi s, yr 75, yi (M 76 ((5 * s) + 1)), yr 91]) (M' := (yu M 90 (M 76 ((5 * s) + 1)) (M 90 (M 76 ((5 * s) + 1))))) (N' := N) rfl ?_
              refine r_virtual (mj := 141) (b := 75) (as := [yi s]) (rest := [yi (M 76 ((5 * s) + 1)), yr 91]) f_145_117 (by decide) rfl m_141 (by decide) (by decide) (by decide) rfl rfl (Nat.le_of_ble_eq_true rfl) (by omega) (m_upTo (by omega) (by simp only [f3 76 _ (show (76 : Int) ≠ 90 by decide)]; exact o1) (by simp only [f3 75 _ (show (75 : Int) ≠ 90 by decide)]; exact g2)) ?_
              rintro _ _ _ ⟨v117, rfl, hv117, rfl, rfl⟩
              simp only [f3 76 _ (show (76 : Int) ≠ 90 by decide), f3 75 _ (show (75 : Int) ≠ 90 by decide)] at hv117
              rw [o5] at hv117
              refine r_run 3 (pc' := 125) (ls' := [some (yr 75), some (yi w), some (yi s), some (yi (M 76 ((5 * s) + 1))), some (yi 1)]) (st' := [yi (M 76 ((5 * s) + 1)), yr 91, yi v117, yi (M 76 ((5 * s) + 1)), yr 91]) (M' := (yu M 90 (M 76 ((5 * s) + 1)) (M 90 (M 76 ((5 * s) + 1))))) (N' := N) rfl ?_
              refine r_iald (n := 6) f_145_125 (by decide) (by decide) (by decide) (by omega) ?_
              refine r_icmp_ge (pc := 126) f_145_126 (by omega) (by rw [f4]; omega) (fun h126 => ?_) (fun h126 => ?_)
              · refine r_run 3 (pc' := 142) (ls' := [some (yr 75), some (yi w), some (yi s), some (yi (M 76 ((5 * s) + 1))), some (yi 1)]) (st' := [yi (M 76 ((5 * s) + 1)), yr 91, yi (M 76 ((5 * s) + 1)), yr 91]) (M' := (yu M 90 (M 76 ((5 * s) + 1)) (M 90 (M 76 ((5 * s) + 1))))) (N' := N) rfl ?_
                refine r_iald (n := 6) f_145_142 (by decide) (by decide) (by decide) (by omega) ?_
                refine r_iast (n := 6) f_145_143 (by decide) (by decide) (by decide) (by omega) ?_
                refine r_run 2 (pc' := 32) (ls' := [some (yr 75), some (yi w), some (yi (s + 1)), some (yi (M 76 ((5 * s) + 1))), some (yi 1)]) (st' := []) (M' := (yu (yu M 90 (M 76 ((5 * s) + 1)) (M 90 (M 76 ((5 * s) + 1)))) 91 (M 76 ((5 * s) + 1)) (M 91 (M 76 ((5 * s) + 1))))) (N' := N) rfl ?_
                have hb : bit w s = 0 := h56
                have h1 : M 90 (M 76 (5 * s + 1)) = imax (M 90 (O s)) (F s) := by
                  rw [o2] at h87
                  unfold imax
                  rw [if_neg (by omega)]; rw [o2]
                have h2 : M 91 (M 76 (5 * s + 1)) = imin (M 91 (O s)) (U s) := by
                  rw [f4, o2] at h126
                  unfold imin
                  rw [if_neg (by omega)]; rw [o2]
                rw [h1, h2, o2, yu_row, yu_row, yrow_ne (show (91 : Int) ≠ 90 by decide)]
                refine r_post (ih (l3 := some (yi (O s))) (l4 := some (yi 1)) (by omega) (by omega) (hS.fr (fun k hk => by rw [yrow_ne (by omega), yrow_ne (by omega)]) (by rw [yrow_ne (by omega), yrow_ne (by omega)])) ?_ ?_) ?_
                · rw [yrow_ne (show (90 : Int) ≠ 91 by decide), yrow_at]
                  intro q hq
                  have b1 := hB q hq
                  unfold up
                  split
                  · rename_i e; rw [← e]; exact ⟨Int.le_trans b1.1 (imax_ge1 _ _), imax_le b1.2 o6.2⟩
                  · exact b1
                · rw [yrow_at]
                  intro q hq
                  have b1 := hE q hq
                  unfold up
                  split
                  · rename_i e; rw [← e]; exact ⟨imin_ge b1.1 o7.1, Int.le_trans (imin_le1 _ _) b1.2⟩
                  · exact b1
                rintro _ _ _ ⟨rfl, rfl, rfl⟩
                refine ⟨rfl, ?_, rfl⟩
                rw [lvB_yes hb, lvE_yes hb, yrow_at, yrow_ne (show (90 : Int) ≠ 91 by decide), yrow_at, yrow_comm (show (91 : Int) ≠ 90 by decide), yrow_row, yrow_row]
              · refine r_run 2 (pc' := 131) (ls' := [some (yr 75), some (yi w), some (yi s), some (yi (M 76 ((5 * s) + 1))), some (yi 1)]) (st' := [yi s, yr 75, yi (M 76 ((5 * s) + 1)), yr 91]) (M' := (yu M 90 (M 76 ((5 * s) + 1)) (M 90 (M 76 ((5 * s) + 1))))) (N' := N) rfl ?_
                refine r_virtual (mj := 141) (b := 75) (as := [yi s]) (rest := [yi (M 76 ((5 * s) + 1)), yr 91]) f_145_131 (by decide) rfl m_141 (by decide) (by decide) (by decide) rfl rfl (Nat.le_of_ble_eq_true rfl) (by omega) (m_upTo (by omega) (by simp only [f3 76 _ (show (76 : Int) ≠ 90 by decide)]; exact o1) (by simp only [f3 75 _ (show (75 : Int) ≠ 90 by decide)]; exact g2)) ?_
                rintro _ _ _ ⟨v131, rfl, hv131, rfl, rfl⟩
                simp only [f3 76 _ (show (76 : Int) ≠ 90 by decide), f3 75 _ (show (75 : Int) ≠ 90 by decide)] at hv131
                rw [o5] at hv131
                refine r_run 1 (pc' := 143) (ls' := [some (yr 75), some (yi w), some (yi s), some (yi (M 76 ((5 * s) + 1))), some (yi 1)]) (st' := [yi v131, yi (M 76 ((5 * s) + 1)), yr 91]) (M' := (yu M 90 (M 76 ((5 * s) + 1)) (M 90 (M 76 ((5 * s) + 1))))) (N' := N) rfl ?_
                refine r_iast (n := 6) f_145_143 (by decide) (by decide) (by decide) (by omega) ?_
                refine r_run 2 (pc' := 32) (ls' := [some (yr 75), some (yi w), some (yi (s + 1)), some (yi (M 76 ((5 * s) + 1))), some (yi 1)]) (st' := []) (M' := (yu (yu M 90 (M 76 ((5 * s) + 1)) (M 90 (M 76 ((5 * s) + 1)))) 91 (M 76 ((5 * s) + 1)) v131)) (N' := N) rfl ?_
                have hb : bit w s = 0 := h56
                have h1 : M 90 (M 76 (5 * s + 1)) = imax (M 90 (O s)) (F s) := by
                  rw [o2] at h87
                  unfold imax
                  rw [if_neg (by omega)]; rw [o2]
                have h2 : v131 = imin (M 91 (O s)) (U s) := by
                  rw [f4, o2] at h126
                  unfold imin
                  rw [if_pos (by omega)]; exact hv131
                rw [h1, h2, o2, yu_row, yu_row, yrow_ne (show (91 : Int) ≠ 90 by decide)]
                refine r_post (ih (l3 := some (yi (O s))) (l4 := some (yi 1)) (by omega) (by omega) (hS.fr (fun k hk => by rw [yrow_ne (by omega), yrow_ne (by omega)]) (by rw [yrow_ne (by omega), yrow_ne (by omega)])) ?_ ?_) ?_
                · rw [yrow_ne (show (90 : Int) ≠ 91 by decide), yrow_at]
                  intro q hq
                  have b1 := hB q hq
                  unfold up
                  split
                  · rename_i e; rw [← e]; exact ⟨Int.le_trans b1.1 (imax_ge1 _ _), imax_le b1.2 o6.2⟩
                  · exact b1
                · rw [yrow_at]
                  intro q hq
                  have b1 := hE q hq
                  unfold up
                  split
                  · rename_i e; rw [← e]; exact ⟨imin_ge b1.1 o7.1, Int.le_trans (imin_le1 _ _) b1.2⟩
                  · exact b1
                rintro _ _ _ ⟨rfl, rfl, rfl⟩
                refine ⟨rfl, ?_, rfl⟩
                rw [lvB_yes hb, lvE_yes hb, yrow_at, yrow_ne (show (90 : Int) ≠ 91 by decide), yrow_at, yrow_comm (show (91 : Int) ≠ 90 by decide), yrow_row, yrow_row]
          · refine r_run 2 (pc' := 92) (ls' := [some (yr 75), some (yi w), some (yi s), some (yi (M 76 ((5 * s) + 1))), some (yi 1)]) (st' := [yi s, yr 75, yi (M 76 ((5 * s) + 1)), yr 90]) (M' := M) (N' := N) rfl ?_
            refine r_virtual (mj := 140) (b := 75) (as := [yi s]) (rest := [yi (M 76 ((5 * s) + 1)), yr 90]) f_145_92 (by decide) rfl m_140 (by decide) (by decide) (by decide) rfl rfl (Nat.le_of_ble_eq_true rfl) (by omega) (m_fromOf (by omega) o1 g2) ?_
            rintro _ _ _ ⟨v92, rfl, hv92, rfl, rfl⟩
            rw [o4] at hv92
            refine r_run 1 (pc' := 104) (ls' := [some (yr 75), some (yi w), some (yi s), some (yi (M 76 ((5 * s) + 1))), some (yi 1)]) (st' := [yi v92, yi (M 76 ((5 * s) + 1)), yr 90]) (M' := M) (N' := N) rfl ?_
            refine r_iast (n := 6) f_145_104 (by decide) (by decide) (by decide) (by omega) ?_
            have f3 : ∀ c k, c ≠ 90 → (yu M 90 (M 76 ((5 * s) + 1)) v92) c k = M c k := fun c k hc => yu_ne (by omega)
            have f4 : ∀ k, (yu M 90 (M 76 ((5 * s) + 1)) v92) 91 k = M 91 k := fun k => yu_ne (by omega)
            refine r_run 4 (pc' := 112) (ls' := [some (yr 75), some (yi w), some (yi s), some (yi (M 76 ((5 * s) + 1))), some (yi 1)]) (st' := [yi 1, yi (M 76 ((5 * s) + 1)), yr 91]) (M' := (yu M 90 (M 76 ((5 * s) + 1)) v92)) (N' := N) rfl ?_
            refine r_if_eq (pc := 112) f_145_112 (by omega) (fun h112 => ?_) (fun h112 => ?_)
            · exact absurd h112 (by decide)
            · refine r_run 2 (pc' := 117) (ls' := [some (yr 75), some (yi w), some (yi s), some (yi (M 76 ((5 * s) + 1))), some (yi 1)]) (st' := [yi s, yr 75, yi (M 76 ((5 * s) + 1)), yr 91]) (M' := (yu M 90 (M 76 ((5 * s) + 1)) v92)) (N' := N) rfl ?_
              refine r_virtual (mj := 141) (b := 75) (as := [yi s]) (rest := [yi (M 76 ((5 * s) + 1)), yr 91]) f_145_117 (by decide) rfl m_141 (by decide) (by decide) (by decide) rfl rfl (Nat.le_of_ble_eq_true rfl) (by omega) (m_upTo (by omega) (by simp only [f3 76 _ (show (76 : Int) ≠ 90 by decide)]; exact o1) (by simp only [f3 75 _ (show (75 : Int) ≠ 90 by decide)]; exact g2)) ?_
              rintro _ _ _ ⟨v117, rfl, hv117, rfl, rfl⟩
              simp only [f3 76 _ (show (76 : Int) ≠ 90 by decide), f3 75 _ (show (75 : Int) ≠ 90 by decide)] at hv117
              rw [o5] at hv117
              refine r_run 3 (pc' := 125) (ls' := [some (yr 75), some (yi w), some (yi s), some (yi (M 76 ((5 * s) + 1))), some (yi 1)]) (st' := [yi (M 76 ((5 * s) + 1)), yr 91, yi v117, yi (M 76 ((5 * s) + 1)), yr 91]) (M' := (yu M 90 (M 76 ((5 * s) + 1)) v92)) (N' := N) rfl ?_
              refine r_iald (n := 6) f_145_125 (by decide) (by decide) (by decide) (by omega) ?_
              refine r_icmp_ge (pc := 126) f_145_126 (by omega) (by rw [f4]; omega) (fun h126 => ?_) (fun h126 => ?_)
              · refine r_run 3 (pc' := 142) (ls' := [some (yr 75), some (yi w), some (yi s), some (yi (M 76 ((5 * s) + 1))), some (yi 1)]) (st' := [yi (M 76 ((5 * s) + 1)), yr 91, yi (M 76 ((5 * s) + 1)), yr 91]) (M' := (yu M 90 (M 76 ((5 * s) + 1)) v92)) (N' := N) rfl ?_
                refine r_iald (n := 6) f_145_142 (by decide) (by decide) (by decide) (by omega) ?_
                refine r_iast (n := 6) f_145_143 (by decide) (by decide) (by decide) (by omega) ?_
                refine r_run 2 (pc' := 32) (ls' := [some (yr 75), some (yi w), some (yi (s + 1)), some (yi (M 76 ((5 * s) + 1))), some (yi 1)]) (st' := []) (M' := (yu (yu M 90 (M 76 ((5 * s) + 1)) v92) 91 (M 76 ((5 * s) + 1)) (M 91 (M 76 ((5 * s) + 1))))) (N' := N) rfl ?_
                have hb : bit w s = 0 := h56
                have h1 : v92 = imax (M 90 (O s)) (F s) := by
                  rw [o2] at h87
                  unfold imax
                  rw [if_pos (by omega)]; exact hv92
                have h2 : M 91 (M 76 (5 * s + 1)) = imin (M 91 (O s)) (U s) := by
                  rw [f4, o2] at h126
                  unfold imin
                  rw [if_neg (by omega)]; rw [o2]
                rw [h1, h2, o2, yu_row, yu_row, yrow_ne (show (91 : Int) ≠ 90 by decide)]
                refine r_post (ih (l3 := some (yi (O s))) (l4 := some (yi 1)) (by omega) (by omega) (hS.fr (fun k hk => by rw [yrow_ne (by omega), yrow_ne (by omega)]) (by rw [yrow_ne (by omega), yrow_ne (by omega)])) ?_ ?_) ?_
                · rw [yrow_ne (show (90 : Int) ≠ 91 by decide), yrow_at]
                  intro q hq
                  have b1 := hB q hq
                  unfold up
                  split
                  · rename_i e; rw [← e]; exact ⟨Int.le_trans b1.1 (imax_ge1 _ _), imax_le b1.2 o6.2⟩
                  · exact b1
                · rw [yrow_at]
                  intro q hq
                  have b1 := hE q hq
                  unfold up
                  split
                  · rename_i e; rw [← e]; exact ⟨imin_ge b1.1 o7.1, Int.le_trans (imin_le1 _ _) b1.2⟩
                  · exact b1
                rintro _ _ _ ⟨rfl, rfl, rfl⟩
                refine ⟨rfl, ?_, rfl⟩
                rw [lvB_yes hb, lvE_yes hb, yrow_at, yrow_ne (show (90 : Int) ≠ 91 by decide), yrow_at, yrow_comm (show (91 : Int) ≠ 90 by decide), yrow_row, yrow_row]
              · refine r_run 2 (pc' := 131) (ls' := [some (yr 75), some (yi w), some (yi s), some (yi (M 76 ((5 * s) + 1))), some (yi 1)]) (st' := [yi s, yr 75, yi (M 76 ((5 * s) + 1)), yr 91]) (M' := (yu M 90 (M 76 ((5 * s) + 1)) v92)) (N' := N) rfl ?_
                refine r_virtual (mj := 141) (b := 75) (as := [yi s]) (rest := [yi (M 76 ((5 * s) + 1)), yr 91]) f_145_131 (by decide) rfl m_141 (by decide) (by decide) (by decide) rfl rfl (Nat.le_of_ble_eq_true rfl) (by omega) (m_upTo (by omega) (by simp only [f3 76 _ (show (76 : Int) ≠ 90 by decide)]; exact o1) (by simp only [f3 75 _ (show (75 : Int) ≠ 90 by decide)]; exact g2)) ?_
                rintro _ _ _ ⟨v131, rfl, hv131, rfl, rfl⟩
                simp only [f3 76 _ (show (76 : Int) ≠ 90 by decide), f3 75 _ (show (75 : Int) ≠ 90 by decide)] at hv131
                rw [o5] at hv131
                refine r_run 1 (pc' := 143) (ls' := [some (yr 75), some (yi w), some (yi s), some (yi (M 76 ((5 * s) + 1))), some (yi 1)]) (st' := [yi v131, yi (M 76 ((5 * s) + 1)), yr 91]) (M' := (yu M 90 (M 76 ((5 * s) + 1)) v92)) (N' := N) rfl ?_
                refine r_iast (n := 6) f_145_143 (by decide) (by decide) (by decide) (by omega) ?_
                refine r_run 2 (pc' := 32) (ls' := [some (yr 75), some (yi w), some (yi (s + 1)), some (yi (M 76 ((5 * s) + 1))), some (yi 1)]) (st' := []) (M' := (yu (yu M 90 (M 76 ((5 * s) + 1)) v92) 91 (M 76 ((5 * s) + 1)) v131)) (N' := N) rfl ?_
                have hb : bit w s = 0 := h56
                have h1 : v92 = imax (M 90 (O s)) (F s) := by
                  rw [o2] at h87
                  unfold imax
                  rw [if_pos (by omega)]; exact hv92
                have h2 : v131 = imin (M 91 (O s)) (U s) := by
                  rw [f4, o2] at h126
                  unfold imin
                  rw [if_pos (by omega)]; exact hv131
                rw [h1, h2, o2, yu_row, yu_row, yrow_ne (show (91 : Int) ≠ 90 by decide)]
                refine r_post (ih (l3 := some (yi (O s))) (l4 := some (yi 1)) (by omega) (by omega) (hS.fr (fun k hk => by rw [yrow_ne (by omega), yrow_ne (by omega)]) (by rw [yrow_ne (by omega), yrow_ne (by omega)])) ?_ ?_) ?_
                · rw [yrow_ne (show (90 : Int) ≠ 91 by decide), yrow_at]
                  intro q hq
                  have b1 := hB q hq
                  unfold up
                  split
                  · rename_i e; rw [← e]; exact ⟨Int.le_trans b1.1 (imax_ge1 _ _), imax_le b1.2 o6.2⟩
                  · exact b1
                · rw [yrow_at]
                  intro q hq
                  have b1 := hE q hq
                  unfold up
                  split
                  · rename_i e; rw [← e]; exact ⟨imin_ge b1.1 o7.1, Int.le_trans (imin_le1 _ _) b1.2⟩
                  · exact b1
                rintro _ _ _ ⟨rfl, rfl, rfl⟩
                refine ⟨rfl, ?_, rfl⟩
                rw [lvB_yes hb, lvE_yes hb, yrow_at, yrow_ne (show (90 : Int) ≠ 91 by decide), yrow_at, yrow_comm (show (91 : Int) ≠ 90 by decide), yrow_row, yrow_row]
theorem m_leaves {S : XS} {M N : YM} {w n : Int} {O F U : Int → Int} (hn : 0 ≤ n) (hn10 : n ≤ 10) (hS : mSy M O F U n) : rm S 2 145 [yr 75, yi w] M N (fun r M' N' => none = r ∧ (∃ B E, yrow (yrow M 90 B) 91 E = M' ∧ (∀ q, in6 q → B q = lvB O F (bit w) n.toNat 0 (fun _ => 0) q) ∧ (∀ q, in6 q → E q = lvE O U (bit w) n.toNat 0 (fun _ => 999) q)) ∧ N = N') := by
  refine ⟨xe_145, m_145, Nat.le_of_ble_eq_true rfl, ?_⟩
  refine r_run 2 (pc' := 2) (ls' := [some (yr 75), some (yi w), some (yi 0), none, none]) (st' := []) (M' := M) (N' := N) rfl ?_
  refine m_leaves_a (j := 6) (Int.le_refl 0) rfl (fun q q0 q1 => by omega) (fun B E hBE => ?_)
  refine r_run 2 (pc' := 32) (ls' := [some (yr 75), some (yi w), some (yi 0), none, none]) (st' := []) (M' := yrow (yrow M 90 B) 91 E) (N' := N) rfl ?_
  refine r_post (m_leaves_l (j := n.toNat) (Nat.le_refl _) hn10 (Int.le_refl 0) (by omega) (hS.fr (fun k hk => by rw [yrow_ne (by omega), yrow_ne (by omega)]) (by rw [yrow_ne (by omega), yrow_ne (by omega)])) ?_ ?_) ?_
  · intro q hq
    rw [yrow_ne (show (90 : Int) ≠ 91 by decide), yrow_at, (hBE q hq).1]; omega
  · intro q hq
    rw [yrow_at, (hBE q hq).2]; omega
  rintro _ _ _ ⟨rfl, rfl, rfl⟩
  rw [yrow_at, yrow_ne (show (90 : Int) ≠ 91 by decide), yrow_at]
  refine ⟨rfl, ⟨lvB O F (bit w) n.toNat 0 B, lvE O U (bit w) n.toNat 0 E, ?_, ?_, ?_⟩, rfl⟩
  · rw [yrow_comm (show (91 : Int) ≠ 90 by decide), yrow_row, yrow_row]
  · exact lvB_congr (fun s s0 s1 => (hS.2.2 s s0 s1).2.2.1) (Int.le_refl 0) (by omega) fun q hq => (hBE q hq).1
  · exact lvE_congr (fun s s0 s1 => (hS.2.2 s s0 s1).2.2.1) (Int.le_refl 0) (by omega) fun q hq => (hBE q hq).2
theorem m_cuts {S : XS} {M N : YM} {a b v : Int} (ha : 0 ≤ a ∧ a < 7) (hb : 0 ≤ b ∧ b < 7) (hr : -2147483648 ≤ M 92 (7 * a + b) ∧ M 92 (7 * a + b) < 2147483648) (hv : -2147483648 ≤ v ∧ v < 2147483648) : rm S 0 146 [yr 75, yi a, yi b, yi v] M N (fun r M' N' => none = r ∧ yrow M 92 (up (M 92) (7 * a + b) (imin (M 92 (7 * a + b)) v)) = M' ∧ N = N') := by
  refine ⟨xe_146, m_146, Nat.le_of_ble_eq_true rfl, ?_⟩
  refine r_run 15 (pc' := 21) (ls' := [some (yr 75), some (yi a), some (yi b), some (yi v)]) (st' := [yi ((7 * a) + b), yr 92, yi v, yi ((7 * a) + b), yr 92]) (M' := M) (N' := N) rfl ?_
  refine r_iald (n := 49) f_146_21 (by decide) (by decide) (by decide) (by omega) ?_
  refine r_icmp_ge (pc := 22) f_146_22 (by omega) (by omega) (fun h22 => ?_) (fun h22 => ?_)
  · refine r_run 7 (pc' := 39) (ls' := [some (yr 75), some (yi a), some (yi b), some (yi v)]) (st' := [yi ((7 * a) + b), yr 92, yi ((7 * a) + b), yr 92]) (M' := M) (N' := N) rfl ?_
    refine r_iald (n := 49) f_146_39 (by decide) (by decide) (by decide) (by omega) ?_
    refine r_iast (n := 49) f_146_40 (by decide) (by decide) (by decide) (by omega) ?_
    refine r_vret m_146 rfl f_146_41 ?_
    exact ⟨rfl, by rw [yu_row]; unfold imin; rw [if_neg (by omega)], rfl⟩
  · refine r_run 2 (pc' := 40) (ls' := [some (yr 75), some (yi a), some (yi b), some (yi v)]) (st' := [yi v, yi ((7 * a) + b), yr 92]) (M' := M) (N' := N) rfl ?_
    refine r_iast (n := 49) f_146_40 (by decide) (by decide) (by decide) (by omega) ?_
    refine r_vret m_146 rfl f_146_41 ?_
    exact ⟨rfl, by rw [yu_row]; unfold imin; rw [if_pos (by omega)], rfl⟩
