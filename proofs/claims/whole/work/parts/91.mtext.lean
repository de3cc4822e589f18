/-! a whole text: the reference -/
theorem pE_q {K V : Nat → Int} (hk : tkOk K V) (i : Nat) (c : List Int) : ∃ f q, mrun K V f (true, true, i, [], 0, c) = some q ∧ q.1 = (pE K V i c).1 ∧ q.2.1 = (pE K V i c).2.1 ∧ ((pE K V i c).1 = true → q.2.2 = (pE K V i c).2.2) := by
  have r := pE_run hk i c
  by_cases g : (pE K V i c).1 = true
  · obtain ⟨f, hf⟩ := r.1 _ _ (pR_mk g)
    exact ⟨f, _, hf, g.symm, rfl, fun _ => rfl⟩
  · have g : (pE K V i c).1 = false := Bool.eq_false_iff.mpr g
    obtain ⟨c2, f, hf⟩ := r.2 _ _ (pR_mk g)
    exact ⟨f, _, hf, g.symm, rfl, fun h => by rw [g] at h; exact nf h⟩
theorem m_eRead {S : XS} {T : Int → Int} {n t : Int} {i : Nat} {c : List Int} {M N : YM} (htp : tpOk T n) (ht : 0 ≤ t ∧ t ≤ 5) (hlx : lexS T n M i) (h9 : M 75 9 = t) (hc : M 75 29 = c.length) (hcr : crep (M 79) (200 * t) c) (hl : c.length ≤ i) : rm S 3 131 [yr 75] M N (fun r M' N' => ∃ v : Int, some (yi v) = r ∧ ((v = 1 ∧ (pE (tkK T n) (tkV T n) i c).1 = true ∧ M' 75 29 = (pE (tkK T n) (tkV T n) i c).2.2.length ∧ crep (M' 79) (200 * t) (pE (tkK T n) (tkV T n) i c).2.2) ∨ (v = 0 ∧ (pE (tkK T n) (tkV T n) i c).1 = false)) ∧ M' 75 22 = tb T n (pE (tkK T n) (tkV T n) i c).2.1 ∧ lexS T n M' ((pE (tkK T n) (tkV T n) i c).2.1 + 1) ∧ frE t M M' ∧ N = N') := by
  refine ⟨xe_131, m_131, Nat.le_of_ble_eq_true rfl, ?_⟩
  refine r_run 10 (pc' := 14) (ls' := [some (yr 75), some (yi 1), some (yi 1), none]) (st' := []) (M' := (yu (yu M 75 27 0) 75 28 0)) (N' := N) rfl ?_
  obtain ⟨f, q, hq, q1, q2, q3⟩ := pE_q (tk_ok htp) i c
  have g0 : ∀ c, c ≠ 75 → (yu (yu M 75 27 0) 75 28 0) c = M c := fun c h => by rw [yu_rn h, yu_rn h]
  have g1 : ∀ k, k ≠ 27 → k ≠ 28 → (yu (yu M 75 27 0) 75 28 0) 75 k = M 75 k := fun k h h' => by rw [yu_ne (Or.inr h'), yu_ne (Or.inr h)]
  have hlx2 : lexS T n (yu (yu M 75 27 0) 75 28 0) i := ⟨by rw [g0 78 (by decide)]; exact hlx.1, by rw [g1 6 (by decide) (by decide)]; exact hlx.2.1, fun k hk => by rw [g0 86 (by decide)]; exact hlx.2.2.1 k hk, by rw [g1 21 (by decide) (by decide)]; exact hlx.2.2.2⟩
  have hc2 : mCore t (yu (yu M 75 27 0) 75 28 0) ([], 0, c) := ⟨by rw [g1 9 (by decide) (by decide)]; exact h9, by rw [yu_ne (Or.inr (by decide)), yu_at]; rfl, True.intro, yu_at, by rw [g1 29 (by decide) (by decide)]; exact hc, by rw [g0 79 (by decide)]; exact hcr⟩
  have hin : xIn i ([], 0, c) := ⟨by show 0 + c.length ≤ i; omega, by show ((0 : Nat) : Int) - i ≤ 0; omega, by show (0 : Int) ≤ 5; decide, fun s hs => absurd hs List.not_mem_nil⟩
  refine r_post (m_eRead_l (q := q) (w := true) (m := true) (by decide) htp ht hlx2 hc2 hin (Or.inl ⟨rfl, rfl⟩) (Or.inl ⟨rfl, rfl⟩) hq) ?_
  rintro _ M' _ ⟨v, rfl, hv, hb, hx, he, rfl⟩
  rw [q2] at hb hx
  refine ⟨v, rfl, ?_, hb, hx, ⟨fun c h1 h2 h3 => by rw [he.1 c h1 h2 h3, g0 c h1], fun k hk => by rw [he.2.1 k hk, g1 k (by omega) (by omega)], fun k hk => by rw [he.2.2 k hk, g0 79 (by decide)]⟩, rfl⟩
  rw [q1] at hv
  rcases hv with ⟨a, b, c1, d1⟩ | hv
  · have e := q3 b
    rw [e] at c1 d1
    exact Or.inl ⟨a, b, c1, d1⟩
  · exact Or.inr hv
theorem m_tx_f {S : XS} {d : Nat} {x : Int} {M N : YM} {Q : Option YV → YM → YM → Prop} (hx : 0 ≤ x ∧ x ≤ 3) (ht : 0 ≤ M 75 9 ∧ M 75 9 ≤ 5) (kk : Q (some (yi (-100 - M 75 22))) (yu (yu M 80 (4 * M 75 9 + 3) (M 75 29)) 75 6 0) N) : ry S d 132 26 [some (yr 75), some (yi 0), some (yi x)] [] M N Q := by
  refine r_run 2 (pc' := 28) (ls' := [some (yr 75), some (yi 0), some (yi x)]) (st' := [yi 3, yi x]) (M' := M) (N' := N) rfl ?_
  refine r_icmp_ge (pc := 28) f_132_28 (by omega) (by omega) (fun h28 => ?_) (fun h28 => ?_)
  · refine r_run 1 (pc' := 102) (ls' := [some (yr 75), some (yi 0), some (yi x)]) (st' := [yi 0]) (M' := M) (N' := N) rfl ?_
    refine r_if_eq (pc := 102) f_132_102 (by omega) (fun h102 => ?_) (fun h102 => ?_)
    · refine r_run 10 (pc' := 138) (ls' := [some (yr 75), some (yi 0), some (yi x)]) (st' := [yi (M 75 29), yi ((4 * (M 75 9)) + 3), yr 80]) (M' := M) (N' := N) rfl ?_
      refine r_iast (n := 24) f_132_138 (by decide) (by decide) (by decide) (by omega) ?_
      refine r_run 4 (pc' := 145) (ls' := [some (yr 75), some (yi 0), some (yi x)]) (st' := [yi 0]) (M' := (yu (yu M 80 ((4 * (M 75 9)) + 3) (M 75 29)) 75 6 0)) (N' := N) rfl ?_
      refine r_if_ne (pc := 145) f_132_145 (by omega) (fun h145 => ?_) (fun h145 => ?_)
      · exact absurd h145 (by decide)
      · refine r_run 4 (pc' := 155) (ls' := [some (yr 75), some (yi 0), some (yi x)]) (st' := [yi ((-100) - (M 75 22))]) (M' := (yu (yu M 80 ((4 * (M 75 9)) + 3) (M 75 29)) 75 6 0)) (N' := N) rfl ?_
        refine r_iret m_132 rfl f_132_155 ?_
        exact kk
    · exact absurd h102 (by decide)
  · refine r_run 1 (pc' := 32) (ls' := [some (yr 75), some (yi 0), some (yi x)]) (st' := [yi 0]) (M' := M) (N' := N) rfl ?_
    refine r_if_eq (pc := 32) f_132_32 (by omega) (fun h32 => ?_) (fun h32 => ?_)
    · refine r_run 1 (pc' := 102) (ls' := [some (yr 75), some (yi 0), some (yi x)]) (st' := [yi 0]) (M' := M) (N' := N) rfl ?_
      refine r_if_eq (pc := 102) f_132_102 (by omega) (fun h102 => ?_) (fun h102 => ?_)
      · refine r_run 10 (pc' := 138) (ls' := [some (yr 75), some (yi 0), some (yi x)]) (st' := [yi (M 75 29), yi ((4 * (M 75 9)) + 3), yr 80]) (M' := M) (N' := N) rfl ?_
        refine r_iast (n := 24) f_132_138 (by decide) (by decide) (by decide) (by omega) ?_
        refine r_run 4 (pc' := 145) (ls' := [some (yr 75), some (yi 0), some (yi x)]) (st' := [yi 0]) (M' := (yu (yu M 80 ((4 * (M 75 9)) + 3) (M 75 29)) 75 6 0)) (N' := N) rfl ?_
        refine r_if_ne (pc := 145) f_132_145 (by omega) (fun h145 => ?_) (fun h145 => ?_)
        · exact absurd h145 (by decide)
        · refine r_run 4 (pc' := 155) (ls' := [some (yr 75), some (yi 0), some (yi x)]) (st' := [yi ((-100) - (M 75 22))]) (M' := (yu (yu M 80 ((4 * (M 75 9)) + 3) (M 75 29)) 75 6 0)) (N' := N) rfl ?_
          refine r_iret m_132 rfl f_132_155 ?_
          exact kk
      · exact absurd h102 (by decide)
    · exact absurd h32 (by decide)
def frU (t : Int) (M M' : YM) : Prop := (∀ c, c ≠ 75 → c ≠ 79 → c ≠ 80 → c ≠ 87 → M' c = M c) ∧ (∀ k, k < 21 → M' 75 k = M 75 k) ∧ (∀ k, k < 200 * t → M' 79 k = M 79 k) ∧ ∀ k, k < 4 * t → M' 80 k = M 80 k
theorem frE.u {t : Int} {M M' : YM} (h : frE t M M') : frU t M M' := ⟨fun c h1 h2 h3 h4 => h.1 c h1 h2 h4, h.2.1, h.2.2, fun k hk => by rw [h.1 80 (by decide) (by decide) (by decide)]⟩
theorem frU.trans {t : Int} {A B C : YM} (h : frU t A B) (g : frU t B C) : frU t A C := ⟨fun c h1 h2 h3 h4 => (g.1 c h1 h2 h3 h4).trans (h.1 c h1 h2 h3 h4), fun k hk => (g.2.1 k hk).trans (h.2.1 k hk), fun k hk => (g.2.2.1 k hk).trans (h.2.2.1 k hk), fun k hk => (g.2.2.2 k hk).trans (h.2.2.2 k hk)⟩
theorem frU.st {t j x : Int} {M : YM} (hj : 0 ≤ j) : frU t M (yu M 80 (4 * t + j) x) := ⟨fun c h1 h2 h3 h4 => yu_rn h3, fun k hk => yu_ne (Or.inl (by decide)), fun k hk => by rw [yu_rn (by decide)], fun k hk => yu_ne (Or.inr (by omega))⟩
def mtxP (T : Int → Int) (n : Int) (M : YM) (v : Int) (M' : YM) : Prop :=
  (M 75 9 = 6 ∧ v = -4 ∧ M' = M) ∨
  (M 75 9 < 6 ∧ ¬ txOk (tkK T n) (tkV T n) ∧ v = -100 - tb T n (txAt (tkK T n) (tkV T n)) ∧ ∃ A, M' = yu A 75 6 0 ∧ frU (M 75 9) M A) ∨
  (M 75 9 < 6 ∧ txOk (tkK T n) (tkV T n) ∧ v = M 75 9 ∧ ∃ A, M' = yu (yu A 75 6 0) 75 9 (M 75 9 + 1) ∧ frU (M 75 9) M A ∧ crep (A 79) (200 * M 75 9) (tx3 (tkK T n) (tkV T n)).2.2 ∧ A 80 (4 * M 75 9 + 0) = 0 ∧ A 80 (4 * M 75 9 + 1) = (tx1 (tkK T n) (tkV T n)).2.2.length ∧ A 80 (4 * M 75 9 + 2) = (tx2 (tkK T n) (tkV T n)).2.2.length ∧ A 80 (4 * M 75 9 + 3) = (tx3 (tkK T n) (tkV T n)).2.2.length)
theorem lxX {T : Int → Int} {n : Int} {M M' : YM} {i : Nat} (h1 : M' 78 = M 78) (h2 : ∀ k, M' 75 k = M 75 k) (h3 : M' 86 = M 86) (h : lexS T n M i) : lexS T n M' i := ⟨by rw [h1]; exact h.1, by rw [h2]; exact h.2.1, fun k hk => by rw [h3]; exact h.2.2.1 k hk, by rw [h2]; exact h.2.2.2⟩
theorem m_text {S : XS} {T : Int → Int} {n : Int} {M N : YM} (htp : tpOk T n) (h8 : M 78 = T) (h1 : M 75 6 = n) (hW : RW M) (h9 : 0 ≤ M 75 9 ∧ M 75 9 ≤ 6) : rm S 4 132 [yr 75] M N (fun r M' N' => ∃ v : Int, some (yi v) = r ∧ mtxP T n M v M' ∧ N = N') := by
  refine ⟨xe_132, m_132, Nat.le_of_ble_eq_true rfl, ?_⟩
  refine r_run 3 (pc' := 6) (ls' := [some (yr 75), none, none]) (st' := [yi 6, yi (M 75 9)]) (M' := M) (N' := N) rfl ?_
  refine r_icmp_ne (pc := 6) f_132_6 (by omega) (by omega) (fun h6 => ?_) (fun h6 => ?_)
  · refine r_run 10 (pc' := 26) (ls' := [some (yr 75), some (yi 1), some (yi 0)]) (st' := []) (M' := (yu (yu M 75 21 0) 75 29 0)) (N' := N) rfl ?_
    have fr0 : frU (M 75 9) M (yu (yu M 75 21 0) 75 29 0) := ⟨fun c h1 h2 h3 h4 => by rw [yu_rn h1, yu_rn h1], fun k hk => by rw [yu_ne (Or.inr (by omega)), yu_ne (Or.inr (by omega))], fun k hk => by rw [yu_rn (by decide), yu_rn (by decide)], fun k hk => by rw [yu_rn (by decide), yu_rn (by decide)]⟩
    have lx0 : lexS T n (yu (yu M 75 21 0) 75 29 0) 0 := ⟨by rw [yu_rn (by decide), yu_rn (by decide)]; exact h8, by rw [yu_ne (Or.inr (by decide)), yu_ne (Or.inr (by decide))]; exact h1, fun k hk => by rw [yu_rn (by decide), yu_rn (by decide)]; exact hW k hk, by rw [yu_ne (Or.inr (by decide)), yu_at]; rfl⟩
    have ho0 : (yu (yu M 75 21 0) 75 29 0) 75 29 = ([] : List Int).length := by rw [yu_at]; rfl
    have cr0 : crep ((yu (yu M 75 21 0) 75 29 0) 79) (200 * M 75 9) [] := True.intro
    have l0 : ([] : List Int).length ≤ 0 := Nat.le_refl _
    generalize (yu (yu M 75 21 0) 75 29 0) = A0 at *
    refine r_run 2 (pc' := 28) (ls' := [some (yr 75), some (yi 1), some (yi 0)]) (st' := [yi 3, yi 0]) (M' := A0) (N' := N) rfl ?_
    refine r_icmp_ge (pc := 28) f_132_28 (by omega) (by omega) (fun h28 => ?_) (fun h28 => ?_)
    · exfalso; omega
    · refine r_run 1 (pc' := 32) (ls' := [some (yr 75), some (yi 1), some (yi 0)]) (st' := [yi 1]) (M' := A0) (N' := N) rfl ?_
      refine r_if_eq (pc := 32) f_132_32 (by omega) (fun h32 => ?_) (fun h32 => ?_)
      · exact absurd h32 (by decide)
      · refine r_run 1 (pc' := 36) (ls' := [some (yr 75), some (yi 1), some (yi 0)]) (st' := [yr 75]) (M' := A0) (N' := N) rfl ?_
        refine r_virtual (mj := 123) (b := 75) (as := []) (rest := []) f_132_36 (by decide) rfl m_123 (by decide) (by decide) (by decide) rfl rfl (Nat.le_of_ble_eq_true rfl) (by omega) (m_nextX (t := M 75 9) htp lx0) ?_
        rintro _ B0 _ ⟨rfl, ⟨lxB, b2, k2, v2, k7, g0, g1, eB⟩, rfl⟩
        have tki := tkK_in htp 0
        have ti := mTok_is (tkK T n 0)
        have t9 : B0 75 9 = M 75 9 := by rw [eB.2.1 9 (by decide), fr0.2.1 9 (by decide)]
        refine r_run 3 (pc' := 44) (ls' := [some (yr 75), some (yi 1), some (yi 0)]) (st' := [yi 3, yi (B0 75 23)]) (M' := B0) (N' := N) rfl ?_
        refine r_icmp_ne (pc := 44) f_132_44 (by omega) (by omega) (fun h44 => ?_) (fun h44 => ?_)
        · refine r_run 12 (pc' := 77) (ls' := [some (yr 75), some (yi 0), some (yi 0)]) (st' := [yi (B0 75 29), yi ((4 * (B0 75 9)) + 0), yr 80]) (M' := B0) (N' := N) rfl ?_
          refine r_iast (n := 24) f_132_77 (by decide) (by decide) (by decide) (by omega) ?_
          refine r_run 1 (pc' := 79) (ls' := [some (yr 75), some (yi 0), some (yi 0)]) (st' := [yi 0]) (M' := (yu B0 80 ((4 * (B0 75 9)) + 0) (B0 75 29))) (N' := N) rfl ?_
          refine r_if_eq (pc := 79) f_132_79 (by omega) (fun h79 => ?_) (fun h79 => ?_)
          · refine r_run 4 (pc' := 26) (ls' := [some (yr 75), some (yi 0), some (yi (0 + 1))]) (st' := []) (M' := (yu B0 80 ((4 * (B0 75 9)) + 0) (B0 75 29))) (N' := N) rfl ?_
            have hp : (tx1 (tkK T n) (tkV T n)) = (false, 0, []) := if_neg (by omega)
            have z1 : (tx1 (tkK T n) (tkV T n)).1 = false := by rw [hp]
            have ha : txAt (tkK T n) (tkV T n) = (tx1 (tkK T n) (tkV T n)).2.1 := by
              unfold txAt
              rw [z1]
              exact if_pos rfl
            have fB := fr0.trans (eB.u.trans (frU.st (t := M 75 9) (j := 0) (x := B0 75 29) (by decide)))
            have hb : yu B0 80 (4 * M 75 9 + 0) (B0 75 29) 75 22 = tb T n 0 := by rw [yu_ne (Or.inl (by decide))]; exact b2
            rw [t9]
            refine m_tx_f (by omega) (by rw [fB.2.1 9 (by decide)]; omega) ?_
            refine ⟨_, rfl, Or.inr (Or.inl ⟨by omega, fun h => by have h1 := h.1; rw [z1] at h1; exact nf h1, by rw [hb, ha, hp], _, rfl, ?_⟩), rfl⟩
            rw [fB.2.1 9 (by decide)]
            exact fB.trans (frU.st (by decide))
          · exact absurd h79 (by decide)
        · have k7 := k7 (by omega)
          refine r_run 3 (pc' := 52) (ls' := [some (yr 75), some (yi 1), some (yi 0)]) (st' := [yi 0, yi (B0 75 24)]) (M' := B0) (N' := N) rfl ?_
          refine r_icmp_ne (pc := 52) f_132_52 (by omega) (by omega) (fun h52 => ?_) (fun h52 => ?_)
          · refine r_run 12 (pc' := 77) (ls' := [some (yr 75), some (yi 0), some (yi 0)]) (st' := [yi (B0 75 29), yi ((4 * (B0 75 9)) + 0), yr 80]) (M' := B0) (N' := N) rfl ?_
            refine r_iast (n := 24) f_132_77 (by decide) (by decide) (by decide) (by omega) ?_
            refine r_run 1 (pc' := 79) (ls' := [some (yr 75), some (yi 0), some (yi 0)]) (st' := [yi 0]) (M' := (yu B0 80 ((4 * (B0 75 9)) + 0) (B0 75 29))) (N' := N) rfl ?_
            refine r_if_eq (pc := 79) f_132_79 (by omega) (fun h79 => ?_) (fun h79 => ?_)
            · refine r_run 4 (pc' := 26) (ls' := [some (yr 75), some (yi 0), some (yi (0 + 1))]) (st' := []) (M' := (yu B0 80 ((4 * (B0 75 9)) + 0) (B0 75 29))) (N' := N) rfl ?_
              have hp : (tx1 (tkK T n) (tkV T n)) = (false, 0, []) := if_neg (by omega)
              have z1 : (tx1 (tkK T n) (tkV T n)).1 = false := by rw [hp]
              have ha : txAt (tkK T n) (tkV T n) = (tx1 (tkK T n) (tkV T n)).2.1 := by
                unfold txAt
                rw [z1]
                exact if_pos rfl
              have fB := fr0.trans (eB.u.trans (frU.st (t := M 75 9) (j := 0) (x := B0 75 29) (by decide)))
              have hb : yu B0 80 (4 * M 75 9 + 0) (B0 75 29) 75 22 = tb T n 0 := by rw [yu_ne (Or.inl (by decide))]; exact b2
              rw [t9]
              refine m_tx_f (by omega) (by rw [fB.2.1 9 (by decide)]; omega) ?_
              refine ⟨_, rfl, Or.inr (Or.inl ⟨by omega, fun h => by have h1 := h.1; rw [z1] at h1; exact nf h1, by rw [hb, ha, hp], _, rfl, ?_⟩), rfl⟩
              rw [fB.2.1 9 (by decide)]
              exact fB.trans (frU.st (by decide))
            · exact absurd h79 (by decide)
          · refine r_run 13 (pc' := 77) (ls' := [some (yr 75), some (yi 1), some (yi 0)]) (st' := [yi (B0 75 29), yi ((4 * (B0 75 9)) + 0), yr 80]) (M' := B0) (N' := N) rfl ?_
            refine r_iast (n := 24) f_132_77 (by decide) (by decide) (by decide) (by omega) ?_
            refine r_run 1 (pc' := 79) (ls' := [some (yr 75), some (yi 1), some (yi 0)]) (st' := [yi 1]) (M' := (yu B0 80 ((4 * (B0 75 9)) + 0) (B0 75 29))) (N' := N) rfl ?_
            refine r_if_eq (pc := 79) f_132_79 (by omega) (fun h79 => ?_) (fun h79 => ?_)
            · exact absurd h79 (by decide)
            · refine r_run 1 (pc' := 83) (ls' := [some (yr 75), some (yi 1), some (yi 0)]) (st' := [yr 75]) (M' := (yu B0 80 ((4 * (B0 75 9)) + 0) (B0 75 29))) (N' := N) rfl ?_
              refine r_virtual (mj := 131) (b := 75) (as := []) (rest := []) f_132_83 (by decide) rfl m_131 (by decide) (by decide) (by decide) rfl rfl (Nat.le_of_ble_eq_true rfl) (by omega) (m_eRead (t := M 75 9) (i := 0 + 1) (c := []) htp (by omega) (lxX (by rw [yu_rn (by decide)]) (fun k => yu_ne (Or.inl (by decide))) (by rw [yu_rn (by decide)]) lxB) (by rw [yu_ne (Or.inl (by decide))]; exact t9) (by rw [yu_ne (Or.inl (by decide)), g1 29 (by decide)]; exact ho0) (by rw [yu_rn (by decide), g0 79 (by decide)]; exact cr0) (by have := l0; omega)) ?_
              rintro _ C0 _ ⟨v, rfl, hv, bC, lxC, eC, rfl⟩
              have wv : v = 0 ∨ v = 1 := by rcases hv with h | h; exact Or.inr h.1; exact Or.inl h.1
              rw [t9] at eC
              have fB := fr0.trans (eB.u.trans (frU.st (t := M 75 9) (j := 0) (x := B0 75 29) (by decide)))
              refine r_if_eq (pc := 86) f_132_86 (by omega) (fun h86 => ?_) (fun h86 => ?_)
              · refine r_run 4 (pc' := 26) (ls' := [some (yr 75), some (yi 0), some (yi (0 + 1))]) (st' := []) (M' := C0) (N' := N) rfl ?_
                have hE : (pE (tkK T n) (tkV T n) (0 + 1) []).1 = false := by
                  rcases hv with h | h
                  · exfalso; omega
                  · exact h.2
                have hp : (tx1 (tkK T n) (tkV T n)) = (pE (tkK T n) (tkV T n) (0 + 1) []) := (if_pos (by omega)).trans (if_neg (by rw [hE]; exact nf))
                have z1 : (tx1 (tkK T n) (tkV T n)).1 = false := by rw [hp]; exact hE
                have ha : txAt (tkK T n) (tkV T n) = (tx1 (tkK T n) (tkV T n)).2.1 := by
                  unfold txAt
                  rw [z1]
                  exact if_pos rfl
                have fC := fB.trans eC.u
                refine m_tx_f (by omega) (by rw [fC.2.1 9 (by decide)]; omega) ?_
                refine ⟨_, rfl, Or.inr (Or.inl ⟨by omega, fun h => by have h1 := h.1; rw [z1] at h1; exact nf h1, by rw [bC, ha, hp], _, rfl, ?_⟩), rfl⟩
                rw [fC.2.1 9 (by decide)]
                exact fC.trans (frU.st (by decide))
              · refine r_run 5 (pc' := 26) (ls' := [some (yr 75), some (yi 1), some (yi (0 + 1))]) (st' := []) (M' := C0) (N' := N) rfl ?_
                obtain ⟨hE, hCo, hCc⟩ : (pE (tkK T n) (tkV T n) (0 + 1) []).1 = true ∧ C0 75 29 = (pE (tkK T n) (tkV T n) (0 + 1) []).2.2.length ∧ crep (C0 79) (200 * M 75 9) (pE (tkK T n) (tkV T n) (0 + 1) []).2.2 := by
                  rcases hv with h | h
                  · exact h.2
                  · exfalso; omega
                have hp : (tx1 (tkK T n) (tkV T n)) = (true, (pE (tkK T n) (tkV T n) (0 + 1) []).2.1 + 1, (pE (tkK T n) (tkV T n) (0 + 1) []).2.2) := (if_pos (by omega)).trans (if_pos hE)
                have y1 : (tx1 (tkK T n) (tkV T n)).1 = true := by rw [hp]
                have fr1 := fB.trans eC.u
                generalize hA1 : C0 = A1 at *
                have lx1 : lexS T n A1 (tx1 (tkK T n) (tkV T n)).2.1 := by rw [hp]; exact lxC
                have ho1 : A1 75 29 = (tx1 (tkK T n) (tkV T n)).2.2.length := by rw [hp]; exact hCo
                have cr1 : crep (A1 79) (200 * M 75 9) (tx1 (tkK T n) (tkV T n)).2.2 := by rw [hp]; exact hCc
                have l1 : (tx1 (tkK T n) (tkV T n)).2.2.length ≤ (tx1 (tkK T n) (tkV T n)).2.1 := (pPt_ext (tk_ok htp) (pR_mk y1)).2.2.len (by show 0 ≤ _; omega)
                have s10 : A1 80 (4 * M 75 9 + 0) = 0 := by rw [eC.1 80 (by decide) (by decide) (by decide), yu_at, g1 29 (by decide)]; exact ho0
                refine r_loc 2 (b := 1) rfl rfl ?_
                refine r_run 2 (pc' := 28) (ls' := [some (yr 75), some (yi 1), some (yi 1)]) (st' := [yi 3, yi 1]) (M' := A1) (N' := N) rfl ?_
                refine r_icmp_ge (pc := 28) f_132_28 (by omega) (by omega) (fun h28 => ?_) (fun h28 => ?_)
                · exfalso; omega
                · refine r_run 1 (pc' := 32) (ls' := [some (yr 75), some (yi 1), some (yi 1)]) (st' := [yi 1]) (M' := A1) (N' := N) rfl ?_
                  refine r_if_eq (pc := 32) f_132_32 (by omega) (fun h32 => ?_) (fun h32 => ?_)
                  · exact absurd h32 (by decide)
                  · refine r_run 1 (pc' := 36) (ls' := [some (yr 75), some (yi 1), some (yi 1)]) (st' := [yr 75]) (M' := A1) (N' := N) rfl ?_
                    refine r_virtual (mj := 123) (b := 75) (as := []) (rest := []) f_132_36 (by decide) rfl m_123 (by decide) (by decide) (by decide) rfl rfl (Nat.le_of_ble_eq_true rfl) (by omega) (m_nextX (t := M 75 9) htp lx1) ?_
                    rintro _ B1 _ ⟨rfl, ⟨lxB, b2, k2, v2, k7, g0, g1, eB⟩, rfl⟩
                    have tki := tkK_in htp (tx1 (tkK T n) (tkV T n)).2.1
                    have ti := mTok_is (tkK T n (tx1 (tkK T n) (tkV T n)).2.1)
                    have t9 : B1 75 9 = M 75 9 := by rw [eB.2.1 9 (by decide), fr1.2.1 9 (by decide)]
                    refine r_run 3 (pc' := 44) (ls' := [some (yr 75), some (yi 1), some (yi 1)]) (st' := [yi 3, yi (B1 75 23)]) (M' := B1) (N' := N) rfl ?_
                    refine r_icmp_ne (pc := 44) f_132_44 (by omega) (by omega) (fun h44 => ?_) (fun h44 => ?_)
                    · refine r_run 12 (pc' := 77) (ls' := [some (yr 75), some (yi 0), some (yi 1)]) (st' := [yi (B1 75 29), yi ((4 * (B1 75 9)) + 1), yr 80]) (M' := B1) (N' := N) rfl ?_
                      refine r_iast (n := 24) f_132_77 (by decide) (by decide) (by decide) (by omega) ?_
                      refine r_run 1 (pc' := 79) (ls' := [some (yr 75), some (yi 0), some (yi 1)]) (st' := [yi 0]) (M' := (yu B1 80 ((4 * (B1 75 9)) + 1) (B1 75 29))) (N' := N) rfl ?_
                      refine r_if_eq (pc := 79) f_132_79 (by omega) (fun h79 => ?_) (fun h79 => ?_)
                      · refine r_run 4 (pc' := 26) (ls' := [some (yr 75), some (yi 0), some (yi (1 + 1))]) (st' := []) (M' := (yu B1 80 ((4 * (B1 75 9)) + 1) (B1 75 29))) (N' := N) rfl ?_
                        have hp : (tx2 (tkK T n) (tkV T n)) = (false, (tx1 (tkK T n) (tkV T n)).2.1, (tx1 (tkK T n) (tkV T n)).2.2) := if_neg (by omega)
                        have z2 : (tx2 (tkK T n) (tkV T n)).1 = false := by rw [hp]
                        have ha : txAt (tkK T n) (tkV T n) = (tx2 (tkK T n) (tkV T n)).2.1 := by
                          unfold txAt
                          rw [y1, z2]
                          exact (if_neg tf).trans (if_pos rfl)
                        have fB := fr1.trans (eB.u.trans (frU.st (t := M 75 9) (j := 1) (x := B1 75 29) (by decide)))
                        have hb : yu B1 80 (4 * M 75 9 + 1) (B1 75 29) 75 22 = tb T n (tx1 (tkK T n) (tkV T n)).2.1 := by rw [yu_ne (Or.inl (by decide))]; exact b2
                        rw [t9]
                        refine m_tx_f (by omega) (by rw [fB.2.1 9 (by decide)]; omega) ?_
                        refine ⟨_, rfl, Or.inr (Or.inl ⟨by omega, fun h => by have h1 := h.2.1; rw [z2] at h1; exact nf h1, by rw [hb, ha, hp], _, rfl, ?_⟩), rfl⟩
                        rw [fB.2.1 9 (by decide)]
                        exact fB.trans (frU.st (by decide))
                      · exact absurd h79 (by decide)
                    · have k7 := k7 (by omega)
                      refine r_run 3 (pc' := 52) (ls' := [some (yr 75), some (yi 1), some (yi 1)]) (st' := [yi 1, yi (B1 75 24)]) (M' := B1) (N' := N) rfl ?_
                      refine r_icmp_ne (pc := 52) f_132_52 (by omega) (by omega) (fun h52 => ?_) (fun h52 => ?_)
                      · refine r_run 12 (pc' := 77) (ls' := [some (yr 75), some (yi 0), some (yi 1)]) (st' := [yi (B1 75 29), yi ((4 * (B1 75 9)) + 1), yr 80]) (M' := B1) (N' := N) rfl ?_
                        refine r_iast (n := 24) f_132_77 (by decide) (by decide) (by decide) (by omega) ?_
                        refine r_run 1 (pc' := 79) (ls' := [some (yr 75), some (yi 0), some (yi 1)]) (st' := [yi 0]) (M' := (yu B1 80 ((4 * (B1 75 9)) + 1) (B1 75 29))) (N' := N) rfl ?_
                        refine r_if_eq (pc := 79) f_132_79 (by omega) (fun h79 => ?_) (fun h79 => ?_)
                        · refine r_run 4 (pc' := 26) (ls' := [some (yr 75), some (yi 0), some (yi (1 + 1))]) (st' := []) (M' := (yu B1 80 ((4 * (B1 75 9)) + 1) (B1 75 29))) (N' := N) rfl ?_
                          have hp : (tx2 (tkK T n) (tkV T n)) = (false, (tx1 (tkK T n) (tkV T n)).2.1, (tx1 (tkK T n) (tkV T n)).2.2) := if_neg (by omega)
                          have z2 : (tx2 (tkK T n) (tkV T n)).1 = false := by rw [hp]
                          have ha : txAt (tkK T n) (tkV T n) = (tx2 (tkK T n) (tkV T n)).2.1 := by
                            unfold txAt
                            rw [y1, z2]
                            exact (if_neg tf).trans (if_pos rfl)
                          have fB := fr1.trans (eB.u.trans (frU.st (t := M 75 9) (j := 1) (x := B1 75 29) (by decide)))
                          have hb : yu B1 80 (4 * M 75 9 + 1) (B1 75 29) 75 22 = tb T n (tx1 (tkK T n) (tkV T n)).2.1 := by rw [yu_ne (Or.inl (by decide))]; exact b2
                          rw [t9]
                          refine m_tx_f (by omega) (by rw [fB.2.1 9 (by decide)]; omega) ?_
                          refine ⟨_, rfl, Or.inr (Or.inl ⟨by omega, fun h => by have h1 := h.2.1; rw [z2] at h1; exact nf h1, by rw [hb, ha, hp], _, rfl, ?_⟩), rfl⟩
                          rw [fB.2.1 9 (by decide)]
                          exact fB.trans (frU.st (by decide))
                        · exact absurd h79 (by decide)
                      · refine r_run 13 (pc' := 77) (ls' := [some (yr 75), some (yi 1), some (yi 1)]) (st' := [yi (B1 75 29), yi ((4 * (B1 75 9)) + 1), yr 80]) (M' := B1) (N' := N) rfl ?_
                        refine r_iast (n := 24) f_132_77 (by decide) (by decide) (by decide) (by omega) ?_
                        refine r_run 1 (pc' := 79) (ls' := [some (yr 75), some (yi 1), some (yi 1)]) (st' := [yi 1]) (M' := (yu B1 80 ((4 * (B1 75 9)) + 1) (B1 75 29))) (N' := N) rfl ?_
                        refine r_if_eq (pc := 79) f_132_79 (by omega) (fun h79 => ?_) (fun h79 => ?_)
                        · exact absurd h79 (by decide)
                        · refine r_run 1 (pc' := 83) (ls' := [some (yr 75), some (yi 1), some (yi 1)]) (st' := [yr 75]) (M' := (yu B1 80 ((4 * (B1 75 9)) + 1) (B1 75 29))) (N' := N) rfl ?_
                          refine r_virtual (mj := 131) (b := 75) (as := []) (rest := []) f_132_83 (by decide) rfl m_131 (by decide) (by decide) (by decide) rfl rfl (Nat.le_of_ble_eq_true rfl) (by omega) (m_eRead (t := M 75 9) (i := (tx1 (tkK T n) (tkV T n)).2.1 + 1) (c := (tx1 (tkK T n) (tkV T n)).2.2) htp (by omega) (lxX (by rw [yu_rn (by decide)]) (fun k => yu_ne (Or.inl (by decide))) (by rw [yu_rn (by decide)]) lxB) (by rw [yu_ne (Or.inl (by decide))]; exact t9) (by rw [yu_ne (Or.inl (by decide)), g1 29 (by decide)]; exact ho1) (by rw [yu_rn (by decide), g0 79 (by decide)]; exact cr1) (by have := l1; omega)) ?_
                          rintro _ C1 _ ⟨v, rfl, hv, bC, lxC, eC, rfl⟩
                          have wv : v = 0 ∨ v = 1 := by rcases hv with h | h; exact Or.inr h.1; exact Or.inl h.1
                          rw [t9] at eC
                          have fB := fr1.trans (eB.u.trans (frU.st (t := M 75 9) (j := 1) (x := B1 75 29) (by decide)))
                          refine r_if_eq (pc := 86) f_132_86 (by omega) (fun h86 => ?_) (fun h86 => ?_)
                          · refine r_run 4 (pc' := 26) (ls' := [some (yr 75), some (yi 0), some (yi (1 + 1))]) (st' := []) (M' := C1) (N' := N) rfl ?_
                            have hE : (pE (tkK T n) (tkV T n) ((tx1 (tkK T n) (tkV T n)).2.1 + 1) (tx1 (tkK T n) (tkV T n)).2.2).1 = false := by
                              rcases hv with h | h
                              · exfalso; omega
                              · exact h.2
                            have hp : (tx2 (tkK T n) (tkV T n)) = (pE (tkK T n) (tkV T n) ((tx1 (tkK T n) (tkV T n)).2.1 + 1) (tx1 (tkK T n) (tkV T n)).2.2) := (if_pos (by omega)).trans (if_neg (by rw [hE]; exact nf))
                            have z2 : (tx2 (tkK T n) (tkV T n)).1 = false := by rw [hp]; exact hE
                            have ha : txAt (tkK T n) (tkV T n) = (tx2 (tkK T n) (tkV T n)).2.1 := by
                              unfold txAt
                              rw [y1, z2]
                              exact (if_neg tf).trans (if_pos rfl)
                            have fC := fB.trans eC.u
                            refine m_tx_f (by omega) (by rw [fC.2.1 9 (by decide)]; omega) ?_
                            refine ⟨_, rfl, Or.inr (Or.inl ⟨by omega, fun h => by have h1 := h.2.1; rw [z2] at h1; exact nf h1, by rw [bC, ha, hp], _, rfl, ?_⟩), rfl⟩
                            rw [fC.2.1 9 (by decide)]
                            exact fC.trans (frU.st (by decide))
                          · refine r_run 5 (pc' := 26) (ls' := [some (yr 75), some (yi 1), some (yi (1 + 1))]) (st' := []) (M' := C1) (N' := N) rfl ?_
                            obtain ⟨hE, hCo, hCc⟩ : (pE (tkK T n) (tkV T n) ((tx1 (tkK T n) (tkV T n)).2.1 + 1) (tx1 (tkK T n) (tkV T n)).2.2).1 = true ∧ C1 75 29 = (pE (tkK T n) (tkV T n) ((tx1 (tkK T n) (tkV T n)).2.1 + 1) (tx1 (tkK T n) (tkV T n)).2.2).2.2.length ∧ crep (C1 79) (200 * M 75 9) (pE (tkK T n) (tkV T n) ((tx1 (tkK T n) (tkV T n)).2.1 + 1) (tx1 (tkK T n) (tkV T n)).2.2).2.2 := by
                              rcases hv with h | h
                              · exact h.2
                              · exfalso; omega
                            have hp : (tx2 (tkK T n) (tkV T n)) = (true, (pE (tkK T n) (tkV T n) ((tx1 (tkK T n) (tkV T n)).2.1 + 1) (tx1 (tkK T n) (tkV T n)).2.2).2.1 + 1, (pE (tkK T n) (tkV T n) ((tx1 (tkK T n) (tkV T n)).2.1 + 1) (tx1 (tkK T n) (tkV T n)).2.2).2.2) := (if_pos (by omega)).trans (if_pos hE)
                            have y2 : (tx2 (tkK T n) (tkV T n)).1 = true := by rw [hp]
                            have fr2 := fB.trans eC.u
                            generalize hA2 : C1 = A2 at *
                            have lx2 : lexS T n A2 (tx2 (tkK T n) (tkV T n)).2.1 := by rw [hp]; exact lxC
                            have ho2 : A2 75 29 = (tx2 (tkK T n) (tkV T n)).2.2.length := by rw [hp]; exact hCo
                            have cr2 : crep (A2 79) (200 * M 75 9) (tx2 (tkK T n) (tkV T n)).2.2 := by rw [hp]; exact hCc
                            have l2 : (tx2 (tkK T n) (tkV T n)).2.2.length ≤ (tx2 (tkK T n) (tkV T n)).2.1 := (pPt_ext (tk_ok htp) (pR_mk y2)).2.2.len (by omega)
                            have s20 : A2 80 (4 * M 75 9 + 0) = 0 := by rw [eC.1 80 (by decide) (by decide) (by decide), yu_ne (Or.inr (by omega)), g0 80 (by decide)]; exact s10
                            have s21 : A2 80 (4 * M 75 9 + 1) = (tx1 (tkK T n) (tkV T n)).2.2.length := by rw [eC.1 80 (by decide) (by decide) (by decide), yu_at, g1 29 (by decide)]; exact ho1
                            refine r_loc 2 (b := 2) rfl rfl ?_
                            refine r_run 2 (pc' := 28) (ls' := [some (yr 75), some (yi 1), some (yi 2)]) (st' := [yi 3, yi 2]) (M' := A2) (N' := N) rfl ?_
                            refine r_icmp_ge (pc := 28) f_132_28 (by omega) (by omega) (fun h28 => ?_) (fun h28 => ?_)
                            · exfalso; omega
                            · refine r_run 1 (pc' := 32) (ls' := [some (yr 75), some (yi 1), some (yi 2)]) (st' := [yi 1]) (M' := A2) (N' := N) rfl ?_
                              refine r_if_eq (pc := 32) f_132_32 (by omega) (fun h32 => ?_) (fun h32 => ?_)
                              · exact absurd h32 (by decide)
                              · refine r_run 1 (pc' := 36) (ls' := [some (yr 75), some (yi 1), some (yi 2)]) (st' := [yr 75]) (M' := A2) (N' := N) rfl ?_
                                refine r_virtual (mj := 123) (b := 75) (as := []) (rest := []) f_132_36 (by decide) rfl m_123 (by decide) (by decide) (by decide) rfl rfl (Nat.le_of_ble_eq_true rfl) (by omega) (m_nextX (t := M 75 9) htp lx2) ?_
                                rintro _ B2 _ ⟨rfl, ⟨lxB, b2, k2, v2, k7, g0, g1, eB⟩, rfl⟩
                                have tki := tkK_in htp (tx2 (tkK T n) (tkV T n)).2.1
                                have ti := mTok_is (tkK T n (tx2 (tkK T n) (tkV T n)).2.1)
                                have t9 : B2 75 9 = M 75 9 := by rw [eB.2.1 9 (by decide), fr2.2.1 9 (by decide)]
                                refine r_run 3 (pc' := 44) (ls' := [some (yr 75), some (yi 1), some (yi 2)]) (st' := [yi 3, yi (B2 75 23)]) (M' := B2) (N' := N) rfl ?_
                                refine r_icmp_ne (pc := 44) f_132_44 (by omega) (by omega) (fun h44 => ?_) (fun h44 => ?_)
                                · refine r_run 12 (pc' := 77) (ls' := [some (yr 75), some (yi 0), some (yi 2)]) (st' := [yi (B2 75 29), yi ((4 * (B2 75 9)) + 2), yr 80]) (M' := B2) (N' := N) rfl ?_
                                  refine r_iast (n := 24) f_132_77 (by decide) (by decide) (by decide) (by omega) ?_
                                  refine r_run 1 (pc' := 79) (ls' := [some (yr 75), some (yi 0), some (yi 2)]) (st' := [yi 0]) (M' := (yu B2 80 ((4 * (B2 75 9)) + 2) (B2 75 29))) (N' := N) rfl ?_
                                  refine r_if_eq (pc := 79) f_132_79 (by omega) (fun h79 => ?_) (fun h79 => ?_)
                                  · refine r_run 4 (pc' := 26) (ls' := [some (yr 75), some (yi 0), some (yi (2 + 1))]) (st' := []) (M' := (yu B2 80 ((4 * (B2 75 9)) + 2) (B2 75 29))) (N' := N) rfl ?_
                                    have hp : (tx3 (tkK T n) (tkV T n)) = (false, (tx2 (tkK T n) (tkV T n)).2.1, (tx2 (tkK T n) (tkV T n)).2.2) := if_neg (by omega)
                                    have z3 : (tx3 (tkK T n) (tkV T n)).1 = false := by rw [hp]
                                    have ha : txAt (tkK T n) (tkV T n) = (tx3 (tkK T n) (tkV T n)).2.1 := by
                                      unfold txAt
                                      rw [y1, y2]
                                      exact (if_neg tf).trans (if_neg tf)
                                    have fB := fr2.trans (eB.u.trans (frU.st (t := M 75 9) (j := 2) (x := B2 75 29) (by decide)))
                                    have hb : yu B2 80 (4 * M 75 9 + 2) (B2 75 29) 75 22 = tb T n (tx2 (tkK T n) (tkV T n)).2.1 := by rw [yu_ne (Or.inl (by decide))]; exact b2
                                    rw [t9]
                                    refine m_tx_f (by omega) (by rw [fB.2.1 9 (by decide)]; omega) ?_
                                    refine ⟨_, rfl, Or.inr (Or.inl ⟨by omega, fun h => by have h1 := h.2.2.1; rw [z3] at h1; exact nf h1, by rw [hb, ha, hp], _, rfl, ?_⟩), rfl⟩
                                    rw [fB.2.1 9 (by decide)]
                                    exact fB.trans (frU.st (by decide))
                                  · exact absurd h79 (by decide)
                                · have k7 := k7 (by omega)
                                  refine r_run 3 (pc' := 52) (ls' := [some (yr 75), some (yi 1), some (yi 2)]) (st' := [yi 2, yi (B2 75 24)]) (M' := B2) (N' := N) rfl ?_
                                  refine r_icmp_ne (pc := 52) f_132_52 (by omega) (by omega) (fun h52 => ?_) (fun h52 => ?_)
                                  · refine r_run 12 (pc' := 77) (ls' := [some (yr 75), some (yi 0), some (yi 2)]) (st' := [yi (B2 75 29), yi ((4 * (B2 75 9)) + 2), yr 80]) (M' := B2) (N' := N) rfl ?_
                                    refine r_iast (n := 24) f_132_77 (by decide) (by decide) (by decide) (by omega) ?_
                                    refine r_run 1 (pc' := 79) (ls' := [some (yr 75), some (yi 0), some (yi 2)]) (st' := [yi 0]) (M' := (yu B2 80 ((4 * (B2 75 9)) + 2) (B2 75 29))) (N' := N) rfl ?_
                                    refine r_if_eq (pc := 79) f_132_79 (by omega) (fun h79 => ?_) (fun h79 => ?_)
                                    · refine r_run 4 (pc' := 26) (ls' := [some (yr 75), some (yi 0), some (yi (2 + 1))]) (st' := []) (M' := (yu B2 80 ((4 * (B2 75 9)) + 2) (B2 75 29))) (N' := N) rfl ?_
                                      have hp : (tx3 (tkK T n) (tkV T n)) = (false, (tx2 (tkK T n) (tkV T n)).2.1, (tx2 (tkK T n) (tkV T n)).2.2) := if_neg (by omega)
                                      have z3 : (tx3 (tkK T n) (tkV T n)).1 = false := by rw [hp]
                                      have ha : txAt (tkK T n) (tkV T n) = (tx3 (tkK T n) (tkV T n)).2.1 := by
                                        unfold txAt
                                        rw [y1, y2]
                                        exact (if_neg tf).trans (if_neg tf)
                                      have fB := fr2.trans (eB.u.trans (frU.st (t := M 75 9) (j := 2) (x := B2 75 29) (by decide)))
                                      have hb : yu B2 80 (4 * M 75 9 + 2) (B2 75 29) 75 22 = tb T n (tx2 (tkK T n) (tkV T n)).2.1 := by rw [yu_ne (Or.inl (by decide))]; exact b2
                                      rw [t9]
                                      refine m_tx_f (by omega) (by rw [fB.2.1 9 (by decide)]; omega) ?_
                                      refine ⟨_, rfl, Or.inr (Or.inl ⟨by omega, fun h => by have h1 := h.2.2.1; rw [z3] at h1; exact nf h1, by rw [hb, ha, hp], _, rfl, ?_⟩), rfl⟩
                                      rw [fB.2.1 9 (by decide)]
                                      exact fB.trans (frU.st (by decide))
                                    · exact absurd h79 (by decide)
                                  · refine r_run 13 (pc' := 77) (ls' := [some (yr 75), some (yi 1), some (yi 2)]) (st' := [yi (B2 75 29), yi ((4 * (B2 75 9)) + 2), yr 80]) (M' := B2) (N' := N) rfl ?_
                                    refine r_iast (n := 24) f_132_77 (by decide) (by decide) (by decide) (by omega) ?_
                                    refine r_run 1 (pc' := 79) (ls' := [some (yr 75), some (yi 1), some (yi 2)]) (st' := [yi 1]) (M' := (yu B2 80 ((4 * (B2 75 9)) + 2) (B2 75 29))) (N' := N) rfl ?_
                                    refine r_if_eq (pc := 79) f_132_79 (by omega) (fun h79 => ?_) (fun h79 => ?_)
                                    · exact absurd h79 (by decide)
                                    · refine r_run 1 (pc' := 83) (ls' := [some (yr 75), some (yi 1), some (yi 2)]) (st' := [yr 75]) (M' := (yu B2 80 ((4 * (B2 75 9)) + 2) (B2 75 29))) (N' := N) rfl ?_
                                      refine r_virtual (mj := 131) (b := 75) (as := []) (rest := []) f_132_83 (by decide) rfl m_131 (by decide) (by decide) (by decide) rfl rfl (Nat.le_of_ble_eq_true rfl) (by omega) (m_eRead (t := M 75 9) (i := (tx2 (tkK T n) (tkV T n)).2.1 + 1) (c := (tx2 (tkK T n) (tkV T n)).2.2) htp (by omega) (lxX (by rw [yu_rn (by decide)]) (fun k => yu_ne (Or.inl (by decide))) (by rw [yu_rn (by decide)]) lxB) (by rw [yu_ne (Or.inl (by decide))]; exact t9) (by rw [yu_ne (Or.inl (by decide)), g1 29 (by decide)]; exact ho2) (by rw [yu_rn (by decide), g0 79 (by decide)]; exact cr2) (by have := l2; omega)) ?_
                                      rintro _ C2 _ ⟨v, rfl, hv, bC, lxC, eC, rfl⟩
                                      have wv : v = 0 ∨ v = 1 := by rcases hv with h | h; exact Or.inr h.1; exact Or.inl h.1
                                      rw [t9] at eC
                                      have fB := fr2.trans (eB.u.trans (frU.st (t := M 75 9) (j := 2) (x := B2 75 29) (by decide)))
                                      refine r_if_eq (pc := 86) f_132_86 (by omega) (fun h86 => ?_) (fun h86 => ?_)
                                      · refine r_run 4 (pc' := 26) (ls' := [some (yr 75), some (yi 0), some (yi (2 + 1))]) (st' := []) (M' := C2) (N' := N) rfl ?_
                                        have hE : (pE (tkK T n) (tkV T n) ((tx2 (tkK T n) (tkV T n)).2.1 + 1) (tx2 (tkK T n) (tkV T n)).2.2).1 = false := by
                                          rcases hv with h | h
                                          · exfalso; omega
                                          · exact h.2
                                        have hp : (tx3 (tkK T n) (tkV T n)) = (pE (tkK T n) (tkV T n) ((tx2 (tkK T n) (tkV T n)).2.1 + 1) (tx2 (tkK T n) (tkV T n)).2.2) := (if_pos (by omega)).trans (if_neg (by rw [hE]; exact nf))
                                        have z3 : (tx3 (tkK T n) (tkV T n)).1 = false := by rw [hp]; exact hE
                                        have ha : txAt (tkK T n) (tkV T n) = (tx3 (tkK T n) (tkV T n)).2.1 := by
                                          unfold txAt
                                          rw [y1, y2]
                                          exact (if_neg tf).trans (if_neg tf)
                                        have fC := fB.trans eC.u
                                        refine m_tx_f (by omega) (by rw [fC.2.1 9 (by decide)]; omega) ?_
                                        refine ⟨_, rfl, Or.inr (Or.inl ⟨by omega, fun h => by have h1 := h.2.2.1; rw [z3] at h1; exact nf h1, by rw [bC, ha, hp], _, rfl, ?_⟩), rfl⟩
                                        rw [fC.2.1 9 (by decide)]
                                        exact fC.trans (frU.st (by decide))
                                      · refine r_run 5 (pc' := 26) (ls' := [some (yr 75), some (yi 1), some (yi (2 + 1))]) (st' := []) (M' := C2) (N' := N) rfl ?_
                                        obtain ⟨hE, hCo, hCc⟩ : (pE (tkK T n) (tkV T n) ((tx2 (tkK T n) (tkV T n)).2.1 + 1) (tx2 (tkK T n) (tkV T n)).2.2).1 = true ∧ C2 75 29 = (pE (tkK T n) (tkV T n) ((tx2 (tkK T n) (tkV T n)).2.1 + 1) (tx2 (tkK T n) (tkV T n)).2.2).2.2.length ∧ crep (C2 79) (200 * M 75 9) (pE (tkK T n) (tkV T n) ((tx2 (tkK T n) (tkV T n)).2.1 + 1) (tx2 (tkK T n) (tkV T n)).2.2).2.2 := by
                                          rcases hv with h | h
                                          · exact h.2
                                          · exfalso; omega
                                        have hp : (tx3 (tkK T n) (tkV T n)) = (true, (pE (tkK T n) (tkV T n) ((tx2 (tkK T n) (tkV T n)).2.1 + 1) (tx2 (tkK T n) (tkV T n)).2.2).2.1 + 1, (pE (tkK T n) (tkV T n) ((tx2 (tkK T n) (tkV T n)).2.1 + 1) (tx2 (tkK T n) (tkV T n)).2.2).2.2) := (if_pos (by omega)).trans (if_pos hE)
                                        have y3 : (tx3 (tkK T n) (tkV T n)).1 = true := by rw [hp]
                                        have fr3 := fB.trans eC.u
                                        generalize hA3 : C2 = A3 at *
                                        have lx3 : lexS T n A3 (tx3 (tkK T n) (tkV T n)).2.1 := by rw [hp]; exact lxC
                                        have ho3 : A3 75 29 = (tx3 (tkK T n) (tkV T n)).2.2.length := by rw [hp]; exact hCo
                                        have cr3 : crep (A3 79) (200 * M 75 9) (tx3 (tkK T n) (tkV T n)).2.2 := by rw [hp]; exact hCc
                                        have l3 : (tx3 (tkK T n) (tkV T n)).2.2.length ≤ (tx3 (tkK T n) (tkV T n)).2.1 := (pPt_ext (tk_ok htp) (pR_mk y3)).2.2.len (by omega)
                                        have s30 : A3 80 (4 * M 75 9 + 0) = 0 := by rw [eC.1 80 (by decide) (by decide) (by decide), yu_ne (Or.inr (by omega)), g0 80 (by decide)]; exact s20
                                        have s31 : A3 80 (4 * M 75 9 + 1) = (tx1 (tkK T n) (tkV T n)).2.2.length := by rw [eC.1 80 (by decide) (by decide) (by decide), yu_ne (Or.inr (by omega)), g0 80 (by decide)]; exact s21
                                        have s32 : A3 80 (4 * M 75 9 + 2) = (tx2 (tkK T n) (tkV T n)).2.2.length := by rw [eC.1 80 (by decide) (by decide) (by decide), yu_at, g1 29 (by decide)]; exact ho2
                                        refine r_loc 2 (b := 3) rfl rfl ?_
                                        refine r_run 2 (pc' := 28) (ls' := [some (yr 75), some (yi 1), some (yi 3)]) (st' := [yi 3, yi 3]) (M' := A3) (N' := N) rfl ?_
                                        refine r_icmp_ge (pc := 28) f_132_28 (by omega) (by omega) (fun h28 => ?_) (fun h28 => ?_)
                                        · refine r_run 1 (pc' := 102) (ls' := [some (yr 75), some (yi 1), some (yi 3)]) (st' := [yi 1]) (M' := A3) (N' := N) rfl ?_
                                          refine r_if_eq (pc := 102) f_132_102 (by omega) (fun h102 => ?_) (fun h102 => ?_)
                                          · exact absurd h102 (by decide)
                                          · refine r_run 1 (pc' := 106) (ls' := [some (yr 75), some (yi 1), some (yi 3)]) (st' := [yr 75]) (M' := A3) (N' := N) rfl ?_
                                            refine r_virtual (mj := 123) (b := 75) (as := []) (rest := []) f_132_106 (by decide) rfl m_123 (by decide) (by decide) (by decide) rfl rfl (Nat.le_of_ble_eq_true rfl) (by omega) (m_nextX (t := M 75 9) htp lx3) ?_
                                            rintro _ B3 _ ⟨rfl, ⟨lxB, b2, k2, v2, k7, g0, g1, eB⟩, rfl⟩
                                            have tki := tkK_in htp (tx3 (tkK T n) (tkV T n)).2.1
                                            have ti := mTok_is (tkK T n (tx3 (tkK T n) (tkV T n)).2.1)
                                            have t9 : B3 75 9 = M 75 9 := by rw [eB.2.1 9 (by decide), fr3.2.1 9 (by decide)]
                                            refine r_run 2 (pc' := 113) (ls' := [some (yr 75), some (yi 1), some (yi 3)]) (st' := [yi (B3 75 23)]) (M' := B3) (N' := N) rfl ?_
                                            refine r_if_ne (pc := 113) f_132_113 (by omega) (fun h113 => ?_) (fun h113 => ?_)
                                            · refine r_run 12 (pc' := 138) (ls' := [some (yr 75), some (yi 0), some (yi 3)]) (st' := [yi (B3 75 29), yi ((4 * (B3 75 9)) + 3), yr 80]) (M' := B3) (N' := N) rfl ?_
                                              refine r_iast (n := 24) f_132_138 (by decide) (by decide) (by decide) (by omega) ?_
                                              refine r_run 4 (pc' := 145) (ls' := [some (yr 75), some (yi 0), some (yi 3)]) (st' := [yi 0]) (M' := (yu (yu B3 80 ((4 * (B3 75 9)) + 3) (B3 75 29)) 75 6 0)) (N' := N) rfl ?_
                                              refine r_if_ne (pc := 145) f_132_145 (by omega) (fun h145 => ?_) (fun h145 => ?_)
                                              · exact absurd h145 (by decide)
                                              · refine r_run 4 (pc' := 155) (ls' := [some (yr 75), some (yi 0), some (yi 3)]) (st' := [yi ((-100) - (B3 75 22))]) (M' := (yu (yu B3 80 ((4 * (B3 75 9)) + 3) (B3 75 29)) 75 6 0)) (N' := N) rfl ?_
                                                refine r_iret m_132 rfl f_132_155 ?_
                                                have hno : ¬ txOk (tkK T n) (tkV T n) := fun h => by have h4 := h.2.2.2; rw [h4] at k2; exact absurd k2 (by show ¬ B3 75 23 = 0; omega)
                                                have ha : txAt (tkK T n) (tkV T n) = (tx3 (tkK T n) (tkV T n)).2.1 := by unfold txAt; rw [y1, y2]; exact (if_neg tf).trans (if_neg tf)
                                                refine ⟨_, rfl, Or.inr (Or.inl ⟨by omega, hno, ?_, yu B3 80 (4 * B3 75 9 + 3) (B3 75 29), rfl, ?_⟩), rfl⟩
                                                · rw [b2, ha]
                                                · rw [eB.2.1 9 (by decide), fr3.2.1 9 (by decide)]
                                                  exact fr3.trans (eB.u.trans (frU.st (by decide)))
                                            · refine r_run 13 (pc' := 138) (ls' := [some (yr 75), some (yi 1), some (yi 3)]) (st' := [yi (B3 75 29), yi ((4 * (B3 75 9)) + 3), yr 80]) (M' := B3) (N' := N) rfl ?_
                                              refine r_iast (n := 24) f_132_138 (by decide) (by decide) (by decide) (by omega) ?_
                                              refine r_run 4 (pc' := 145) (ls' := [some (yr 75), some (yi 1), some (yi 3)]) (st' := [yi 1]) (M' := (yu (yu B3 80 ((4 * (B3 75 9)) + 3) (B3 75 29)) 75 6 0)) (N' := N) rfl ?_
                                              refine r_if_ne (pc := 145) f_132_145 (by omega) (fun h145 => ?_) (fun h145 => ?_)
                                              · refine r_run 10 (pc' := 172) (ls' := [some (yr 75), some (yi 1), some (yi 3)]) (st' := [yi (((B3 75 9) + 1) - 1)]) (M' := (yu (yu (yu B3 80 ((4 * (B3 75 9)) + 3) (B3 75 29)) 75 6 0) 75 9 ((B3 75 9) + 1))) (N' := N) rfl ?_
                                                refine r_iret m_132 rfl f_132_172 ?_
                                                have hok : txOk (tkK T n) (tkV T n) := ⟨y1, y2, y3, by have := mTok_is (tkK T n (tx3 (tkK T n) (tkV T n)).2.1); omega⟩
                                                refine ⟨_, rfl, Or.inr (Or.inr ⟨by omega, hok, by rw [t9]; omega, yu B3 80 (4 * M 75 9 + 3) (B3 75 29), ?_, fr3.trans (eB.u.trans (frU.st (by decide))), ?_, ?_, ?_, ?_, ?_⟩), rfl⟩
                                                · rw [t9]
                                                · rw [yu_rn (by decide), g0 79 (by decide)]; exact cr3
                                                · rw [yu_ne (Or.inr (by omega)), g0 80 (by decide)]; exact s30
                                                · rw [yu_ne (Or.inr (by omega)), g0 80 (by decide)]; exact s31
                                                · rw [yu_ne (Or.inr (by omega)), g0 80 (by decide)]; exact s32
                                                · rw [yu_at, g1 29 (by decide)]; exact ho3
                                              · exact absurd h145 (by decide)
                                        · exfalso; omega
  · refine r_run 1 (pc' := 11) (ls' := [some (yr 75), none, none]) (st' := [yi (-4)]) (M' := M) (N' := N) rfl ?_
    refine r_iret m_132 rfl f_132_11 ?_
    exact ⟨_, rfl, Or.inl ⟨by omega, rfl, rfl⟩, rfl⟩
