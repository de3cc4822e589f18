/-! the class reads as the grammar does -/
def cxP (T : Int → Int) (n : Int) (q : pR) (o : Int) (M : YM) (v : Int) (M' : YM) : Prop := ((v = 1 ∧ ∃ i' c', q = (true, i', c') ∧ cSt T n M' i' ∧ drf M' c' ∧ M' 27 7 = o) ∨ (v = 0 ∧ ∃ i' c', q = (false, i', c') ∧ cSt T n M' i')) ∧ fr3 M M'
def CX (S : XS) (T : Int → Int) (n : Int) (d mj : Nat) (o : Int) (f : pF) : Prop := ∀ (M N : YM) (i : Nat) (c : List Int), cSt T n M i → drf M c → M 27 7 = o → c.length ≤ i → rm S d mj [yr 27] M N (fun r M' N' => ∃ v : Int, some (yi v) = r ∧ cxP T n (f i c) o M v M' ∧ N = N')
theorem cx_v {T : Int → Int} {n : Int} {q : pR} {o : Int} {M : YM} {v : Int} {M' : YM} (h : cxP T n q o M v M') : v = 0 ∨ v = 1 := by
  rcases h.1 with ⟨a, -⟩ | ⟨a, -⟩
  · exact Or.inr a
  · exact Or.inl a
theorem cx_y {T : Int → Int} {n : Int} {q : pR} {o : Int} {M : YM} {v : Int} {M' : YM} (h : cxP T n q o M v M') (g : v ≠ 0) : ∃ i' c', q = (true, i', c') ∧ cSt T n M' i' ∧ drf M' c' ∧ M' 27 7 = o := by
  rcases h.1 with ⟨a, b⟩ | ⟨a, b⟩
  · exact b
  · exact absurd a g
theorem cx_n {T : Int → Int} {n : Int} {q : pR} {o : Int} {M : YM} {v : Int} {M' : YM} (h : cxP T n q o M v M') (g : v = 0) : ∃ i' c', q = (false, i', c') ∧ cSt T n M' i' := by
  rcases h.1 with ⟨a, b⟩ | ⟨a, b⟩
  · omega
  · exact b
theorem cxP.conv {T : Int → Int} {n : Int} {q q' : pR} {o : Int} {M M1 : YM} {v : Int} {M' : YM} (h : cxP T n q o M1 v M') (e : q' = q) (f : fr3 M M1) : cxP T n q' o M v M' := by
  rw [e]; exact ⟨h.1, f.trans h.2⟩
theorem ext.len {i i' : Nat} {c c' : List Int} {z : Int} (h : ext i c i' c' z) (g : c.length ≤ i) : c'.length ≤ i' := by
  obtain ⟨e, rfl, e2, -⟩ := h
  rw [List.length_append]; omega
theorem ext.len1 {i i' : Nat} {c c' : List Int} {z : Int} (h : ext (i + 1) c i' c' z) (g : c.length ≤ i) : c'.length + 1 ≤ i' := by
  obtain ⟨e, rfl, e2, -⟩ := h
  rw [List.length_append]; omega
theorem nf {P : Prop} (h : false = true) : P := absurd h (by decide)
theorem c_add {S : XS} {M N : YM} {x : Int} (hz : 0 ≤ M 29 1 ∧ M 29 1 < 160) : rm S 0 43 [yr 29, yi x] M N (fun r M' N' => none = r ∧ (yu (yu M 30 (M 29 1) x) 29 1 (M 29 1 + 1)) = M' ∧ N = N') := by
  refine ⟨xe_43, m_43, Nat.le_of_ble_eq_true rfl, ?_⟩
  refine r_run 4 (pc' := 8) (ls' := [some (yr 29), some (yi x)]) (st' := [yr 30, yi (M 29 1)]) (M' := M) (N' := N) rfl ?_
  refine r_alen (kd := 0) (n := 160) f_43_8 (by decide) (by decide) (by decide) ?_
  refine r_icmp_ge (pc := 9) f_43_9 (by omega) (by omega) (fun h9 => ?_) (fun h9 => ?_)
  · refine r_vret m_43 rfl f_43_32 ?_
    exfalso; omega
  · refine r_run 5 (pc' := 21) (ls' := [some (yr 29), some (yi x)]) (st' := [yi x, yi (M 29 1), yr 30]) (M' := M) (N' := N) rfl ?_
    refine r_iast (n := 160) f_43_21 (by decide) (by decide) (by decide) (by omega) ?_
    refine r_run 6 (pc' := 32) (ls' := [some (yr 29), some (yi x)]) (st' := []) (M' := (yu (yu M 30 (M 29 1) x) 29 1 ((M 29 1) + 1))) (N' := N) rfl ?_
    refine r_vret m_43 rfl f_43_32 ?_
    exact ⟨rfl, rfl, rfl⟩
theorem c_addX {S : XS} {M N : YM} {x y : Int} {c : List Int} (hd : drf M c) (hl : c.length < 160) (hx : x = tEnc y) : rm S 0 43 [yr 29, yi x] M N (fun r M' N' => none = r ∧ (drf M' (y :: c) ∧ (∀ c', c' ≠ 29 → c' ≠ 30 → M' c' = M c') ∧ M' 29 3 = M 29 3) ∧ N = N') := by
  have h1 := hd.1
  refine rm_post (c_add (by omega)) ?_
  rintro _ _ _ ⟨rfl, rfl, rfl⟩
  refine ⟨rfl, ⟨⟨?_, ?_⟩, fun c' g1 g2 => by rw [yu_rn g1, yu_rn g2], by rw [yu_ne (Or.inr (by decide)), yu_ne (Or.inl (by decide))]⟩, rfl⟩
  · rw [yu_at, h1, List.length_cons]; rfl
  · show (yu (yu M 30 (M 29 1) x) 29 1 (M 29 1 + 1) 30 (0 + ((c.map tEnc).length : Int)) = tEnc y) ∧ crep (yu (yu M 30 (M 29 1) x) 29 1 (M 29 1 + 1) 30) 0 (c.map tEnc)
    rw [yu_rn (show (30 : Int) ≠ 29 by decide)]
    refine ⟨?_, crep_congr (fun k k0 k1 => ?_) hd.2⟩
    · rw [List.length_map, Int.zero_add, ← h1, yu_at]; exact hx
    · rw [List.length_map] at k1
      exact yu_ne (Or.inr (by omega))
theorem c_opens {S : XS} {M N : YM} (ho : 0 ≤ M 27 7 ∧ M 27 7 ≤ 5) : rm S 0 14 [yr 27] M N (fun r M' N' => ∃ v : Int, some (yi v) = r ∧ ((v = 0 ∧ M 27 7 = 5 ∧ M = M') ∨ (v = 1 ∧ M 27 7 < 5 ∧ yu M 27 7 (M 27 7 + 1) = M')) ∧ N = N') := by
  refine ⟨xe_14, m_14, Nat.le_of_ble_eq_true rfl, ?_⟩
  refine r_run 3 (pc' := 5) (ls' := [some (yr 27)]) (st' := [yi 5, yi (M 27 7)]) (M' := M) (N' := N) rfl ?_
  refine r_icmp_lt (pc := 5) f_14_5 (by omega) (by omega) (fun h5 => ?_) (fun h5 => ?_)
  · refine r_run 7 (pc' := 21) (ls' := [some (yr 27)]) (st' := [yi 1]) (M' := (yu M 27 7 ((M 27 7) + 1))) (N' := N) rfl ?_
    refine r_zret m_14 rfl f_14_21 (by omega) ?_
    exact ⟨_, rfl, Or.inr ⟨rfl, by omega, rfl⟩, rfl⟩
  · refine r_run 1 (pc' := 9) (ls' := [some (yr 27)]) (st' := [yi 0]) (M' := M) (N' := N) rfl ?_
    refine r_zret m_14 rfl f_14_9 (by omega) ?_
    exact ⟨_, rfl, Or.inl ⟨rfl, by omega, rfl⟩, rfl⟩
theorem c_term_l {S : XS} {d : Nat} {T : Int → Int} {n : Int} {d1 : Nat} {o : Int} {sub : pF} {N : YM} (ht : tpOk T n) (hd : d1 < d) (h7 : 7 < d) (hg : gd sub) (h : CX S T n d1 13 o sub) {j : Nat} : ∀ {x : Int} {M : YM} {i : Nat} {c : List Int}, 0 ≤ x → x + j = 160 → cSt T n M i → drf M c → M 27 7 = o → c.length ≤ i → ry S d 12 11 [some (yr 27), some (yi x)] [] M N (fun r M' N' => ∃ v : Int, some (yi v) = r ∧ cxP T n (sqL (tkK T n) opT sub j i c) o M v M' ∧ N = N') := by
  induction j with
  | zero =>
    intro x M i c h0 h1 hs hdr ho hc
    have t0 := hs.2.2.2.2.1
    have ki := tkK_in ht i
    refine r_run 2 (pc' := 15) (ls' := [some (yr 27), some (yi x)]) (st' := [yi 160, yi x]) (M' := M) (N' := N) rfl ?_
    refine r_icmp_ge (pc := 15) f_12_15 (by omega) (by omega) (fun h15 => ?_) (fun h15 => ?_)
    · refine r_run 1 (pc' := 56) (ls' := [some (yr 27), some (yi x)]) (st' := [yi 1]) (M' := M) (N' := N) rfl ?_
      refine r_zret m_12 rfl f_12_56 (by omega) ?_
      exact ⟨1, rfl, ⟨Or.inl ⟨rfl, i, c, rfl, hs, hdr, ho⟩, fr3.refl⟩, rfl⟩
    · exfalso; omega
  | succ j ih =>
    intro x M i c h0 h1 hs hdr ho hc
    have t0 := hs.2.2.2.2.1
    have ki := tkK_in ht i
    refine r_run 2 (pc' := 15) (ls' := [some (yr 27), some (yi x)]) (st' := [yi 160, yi x]) (M' := M) (N' := N) rfl ?_
    refine r_icmp_ge (pc := 15) f_12_15 (by omega) (by omega) (fun h15 => ?_) (fun h15 => ?_)
    · refine r_run 1 (pc' := 56) (ls' := [some (yr 27), some (yi x)]) (st' := [yi 1]) (M' := M) (N' := N) rfl ?_
      refine r_zret m_12 rfl f_12_56 (by omega) ?_
      exact ⟨1, rfl, ⟨Or.inl ⟨rfl, i, c, if_pos (show opT (tkK T n i) = 0 by unfold opT; rw [if_neg (by omega)]), hs, hdr, ho⟩, fr3.refl⟩, rfl⟩
    · refine r_run 3 (pc' := 24) (ls' := [some (yr 27), some (yi x)]) (st' := [yi 42, yi (M 27 5)]) (M' := M) (N' := N) rfl ?_
      refine r_icmp_ne (pc := 24) f_12_24 (by omega) (by omega) (fun h24 => ?_) (fun h24 => ?_)
      · refine r_run 1 (pc' := 56) (ls' := [some (yr 27), some (yi x)]) (st' := [yi 1]) (M' := M) (N' := N) rfl ?_
        refine r_zret m_12 rfl f_12_56 (by omega) ?_
        exact ⟨1, rfl, ⟨Or.inl ⟨rfl, i, c, if_pos (show opT (tkK T n i) = 0 by unfold opT; rw [if_neg (by omega)]), hs, hdr, ho⟩, fr3.refl⟩, rfl⟩
      · have hop : ¬ (opT (tkK T n i) = 0) := by unfold opT; rw [if_pos (by omega)]; decide
        refine r_run 1 (pc' := 28) (ls' := [some (yr 27), some (yi x)]) (st' := [yr 27]) (M' := M) (N' := N) rfl ?_
        refine r_virtual (mj := 15) (b := 27) (as := []) (rest := []) f_12_28 (by decide) rfl m_15 (by decide) (by decide) (by decide) rfl rfl (Nat.le_of_ble_eq_true rfl) (by omega) (c_stepX ht hs.1 hs.2.1 hs.2.2.2.1) ?_
        rintro _ M2 _ ⟨rfl, ⟨s2, f2, u2⟩, rfl⟩
        have d2 := hdr.fr (f2 29 (by decide) ▸ rfl : M2 29 1 = M 29 1) (f2 30 (by decide))
        have t2 := s2.2.2.2.2.1
        refine r_run 1 (pc' := 32) (ls' := [some (yr 27), some (yi x)]) (st' := [yr 27]) (M' := M2) (N' := N) rfl ?_
        refine r_virtual (mj := 13) (b := 27) (as := []) (rest := []) f_12_32 (by decide) rfl m_13 (by decide) (by decide) (by decide) rfl rfl (Nat.le_of_ble_eq_true rfl) (by omega) (h M2 N (i + 1) c s2 d2 (u2.trans ho) (by omega)) ?_
        rintro _ M3 _ ⟨v3, rfl, hv3, rfl⟩
        have w3 := cx_v hv3
        refine r_if_ne (pc := 35) f_12_35 (by omega) (fun h35 => ?_) (fun h35 => ?_)
        · obtain ⟨i3, c3, q3, s3, d3, o3⟩ := cx_y hv3 (by omega)
          have t3 := s3.2.2.2.2.1
          have g3 := hg _ _ _ _ q3
          have l3 := g3.2.2.len1 hc
          refine r_run 3 (pc' := 46) (ls' := [some (yr 27), some (yi x)]) (st' := [yi (-8), yr 29]) (M' := M3) (N' := N) rfl ?_
          refine r_virtual (mj := 43) (b := 29) (as := [yi (-8)]) (rest := []) f_12_46 (by decide) rfl m_43 (by decide) (by decide) (by decide) rfl rfl (Nat.le_of_ble_eq_true rfl) (by omega) (c_addX (y := 18) d3 (by omega) (by decide)) ?_
          rintro _ M4 _ ⟨rfl, ⟨d4, a4, b4⟩, rfl⟩
          refine r_run 2 (pc' := 11) (ls' := [some (yr 27), some (yi (x + 1))]) (st' := []) (M' := M4) (N' := N) rfl ?_
          have s4 : cSt T n M4 i3 := s3.fr (a4 28 (by decide) (by decide)) (fun k _ => by rw [a4 27 (by decide) (by decide)])
          refine r_post (ih (by omega) (by omega) s4 d4 (by rw [a4 27 (by decide) (by decide)]; exact o3) (by rw [List.length_cons]; exact l3)) ?_
          rintro _ M' _ ⟨v, rfl, hv, rfl⟩
          have ho2 : opT (tkK T n i) = 18 := by unfold opT; rw [if_pos (by omega)]
          refine ⟨v, rfl, hv.conv ?_ (((fr3.trans ⟨fun c h1 h2 h3 => f2 c h1, by rw [f2 29 (by decide)]⟩ hv3.2)).trans ⟨fun c h1 h2 h3 => a4 c h2 h3, b4⟩), rfl⟩
          refine (if_neg hop).trans ((if_pos (by rw [q3])).trans ?_)
          rw [q3, ho2]
        · refine r_run 1 (pc' := 39) (ls' := [some (yr 27), some (yi x)]) (st' := [yi 0]) (M' := M3) (N' := N) rfl ?_
          refine r_zret m_12 rfl f_12_39 (by omega) ?_
          obtain ⟨i3, c3, q3, s3⟩ := cx_n hv3 (by omega)
          refine ⟨0, rfl, ⟨Or.inr ⟨rfl, i3, c3, ?_, s3⟩, fr3.trans ⟨fun c h1 h2 h3 => f2 c h1, by rw [f2 29 (by decide)]⟩ hv3.2⟩, rfl⟩
          exact (if_neg hop).trans ((if_neg (by rw [q3]; exact nf)).trans q3)
theorem c_term {S : XS} {T : Int → Int} {n : Int} {d d1 : Nat} {o : Int} {sub : pF} (ht : tpOk T n) (hd : d1 < d) (h7 : 7 < d) (hg : gd sub) (h : CX S T n d1 13 o sub) : CX S T n d 12 o (sqs (tkK T n) opT sub) := by
  intro M N i c hs hdr ho hc
  refine ⟨xe_12, m_12, Nat.le_of_ble_eq_true rfl, ?_⟩
  refine r_run 1 (pc' := 1) (ls' := [some (yr 27), none]) (st' := [yr 27]) (M' := M) (N' := N) rfl ?_
  refine r_virtual (mj := 13) (b := 27) (as := []) (rest := []) f_12_1 (by decide) rfl m_13 (by decide) (by decide) (by decide) rfl rfl (Nat.le_of_ble_eq_true rfl) (by omega) (h M N i c hs hdr ho hc) ?_
  rintro _ M1 _ ⟨v1, rfl, hv1, rfl⟩
  have w1 := cx_v hv1
  refine r_if_ne (pc := 4) f_12_4 (by omega) (fun h4 => ?_) (fun h4 => ?_)
  · refine r_run 2 (pc' := 11) (ls' := [some (yr 27), some (yi 0)]) (st' := []) (M' := M1) (N' := N) rfl ?_
    obtain ⟨i1, c1, q1, s1, dd1, o1⟩ := cx_y hv1 (by omega)
    have t1 := s1.2.2.2.2.1
    have g1 := hg _ _ _ _ q1
    refine r_post (c_term_l (j := 160) ht hd h7 hg h (Int.le_refl 0) (by omega) s1 dd1 o1 (g1.2.2.len hc)) ?_
    rintro _ M' _ ⟨v, rfl, hv, rfl⟩
    refine ⟨v, rfl, hv.conv ?_ hv1.2, rfl⟩
    refine (if_pos (by rw [q1])).trans ?_
    rw [q1]
  · refine r_run 1 (pc' := 8) (ls' := [some (yr 27), none]) (st' := [yi 0]) (M' := M1) (N' := N) rfl ?_
    refine r_zret m_12 rfl f_12_8 (by omega) ?_
    obtain ⟨i1, c1, q1, s1⟩ := cx_n hv1 (by omega)
    refine ⟨0, rfl, ⟨Or.inr ⟨rfl, i1, c1, ?_, s1⟩, hv1.2⟩, rfl⟩
    exact (if_neg (by rw [q1]; exact nf)).trans q1
theorem c_sum_l {S : XS} {d : Nat} {T : Int → Int} {n : Int} {d1 : Nat} {o : Int} {sub : pF} {N : YM} (ht : tpOk T n) (hd : d1 < d) (h7 : 7 < d) (hg : gd sub) (h : CX S T n d1 12 o sub) {j : Nat} : ∀ {x : Int} {M : YM} {i : Nat} {c : List Int} {l2 : Option YV}, 0 ≤ x → x + j = 160 → cSt T n M i → drf M c → M 27 7 = o → c.length ≤ i → ry S d 11 11 [some (yr 27), some (yi x), l2] [] M N (fun r M' N' => ∃ v : Int, some (yi v) = r ∧ cxP T n (sqL (tkK T n) opS sub j i c) o M v M' ∧ N = N') := by
  induction j with
  | zero =>
    intro x M i c l2 h0 h1 hs hdr ho hc
    have t0 := hs.2.2.2.2.1
    have ki := tkK_in ht i
    refine r_run 2 (pc' := 15) (ls' := [some (yr 27), some (yi x), l2]) (st' := [yi 160, yi x]) (M' := M) (N' := N) rfl ?_
    refine r_icmp_ge (pc := 15) f_11_15 (by omega) (by omega) (fun h15 => ?_) (fun h15 => ?_)
    · refine r_run 1 (pc' := 81) (ls' := [some (yr 27), some (yi x), l2]) (st' := [yi 1]) (M' := M) (N' := N) rfl ?_
      refine r_zret m_11 rfl f_11_81 (by omega) ?_
      exact ⟨1, rfl, ⟨Or.inl ⟨rfl, i, c, rfl, hs, hdr, ho⟩, fr3.refl⟩, rfl⟩
    · exfalso; omega
  | succ j ih =>
    intro x M i c l2 h0 h1 hs hdr ho hc
    have t0 := hs.2.2.2.2.1
    have ki := tkK_in ht i
    refine r_run 2 (pc' := 15) (ls' := [some (yr 27), some (yi x), l2]) (st' := [yi 160, yi x]) (M' := M) (N' := N) rfl ?_
    refine r_icmp_ge (pc := 15) f_11_15 (by omega) (by omega) (fun h15 => ?_) (fun h15 => ?_)
    · refine r_run 1 (pc' := 81) (ls' := [some (yr 27), some (yi x), l2]) (st' := [yi 1]) (M' := M) (N' := N) rfl ?_
      refine r_zret m_11 rfl f_11_81 (by omega) ?_
      exact ⟨1, rfl, ⟨Or.inl ⟨rfl, i, c, if_pos (show opS (tkK T n i) = 0 by unfold opS; rw [if_neg (by omega), if_neg (by omega)]), hs, hdr, ho⟩, fr3.refl⟩, rfl⟩
    · refine r_run 3 (pc' := 24) (ls' := [some (yr 27), some (yi x), l2]) (st' := [yi 43, yi (M 27 5)]) (M' := M) (N' := N) rfl ?_
      refine r_icmp_eq (pc := 24) f_11_24 (by omega) (by omega) (fun h24 => ?_) (fun h24 => ?_)
      · refine r_run 3 (pc' := 42) (ls' := [some (yr 27), some (yi x), l2]) (st' := [yi 43, yi (M 27 5)]) (M' := M) (N' := N) rfl ?_
        refine r_icmp_ne (pc := 42) f_11_42 (by omega) (by omega) (fun h42 => ?_) (fun h42 => ?_)
        · refine r_run 2 (pc' := 53) (ls' := [some (yr 27), some (yi x), some (yi (-7))]) (st' := []) (M' := M) (N' := N) rfl ?_
          have hop : ¬ (opS (tkK T n i) = 0) := by exfalso; omega
          refine r_run 1 (pc' := 54) (ls' := [some (yr 27), some (yi x), some (yi (-7))]) (st' := [yr 27]) (M' := M) (N' := N) rfl ?_
          refine r_virtual (mj := 15) (b := 27) (as := []) (rest := []) f_11_54 (by decide) rfl m_15 (by decide) (by decide) (by decide) rfl rfl (Nat.le_of_ble_eq_true rfl) (by omega) (c_stepX ht hs.1 hs.2.1 hs.2.2.2.1) ?_
          rintro _ M2 _ ⟨rfl, ⟨s2, f2, u2⟩, rfl⟩
          have d2 := hdr.fr (f2 29 (by decide) ▸ rfl : M2 29 1 = M 29 1) (f2 30 (by decide))
          have t2 := s2.2.2.2.2.1
          refine r_run 1 (pc' := 58) (ls' := [some (yr 27), some (yi x), some (yi (-7))]) (st' := [yr 27]) (M' := M2) (N' := N) rfl ?_
          refine r_virtual (mj := 12) (b := 27) (as := []) (rest := []) f_11_58 (by decide) rfl m_12 (by decide) (by decide) (by decide) rfl rfl (Nat.le_of_ble_eq_true rfl) (by omega) (h M2 N (i + 1) c s2 d2 (u2.trans ho) (by omega)) ?_
          rintro _ M3 _ ⟨v3, rfl, hv3, rfl⟩
          have w3 := cx_v hv3
          refine r_if_ne (pc := 61) f_11_61 (by omega) (fun h61 => ?_) (fun h61 => ?_)
          · obtain ⟨i3, c3, q3, s3, d3, o3⟩ := cx_y hv3 (by omega)
            have t3 := s3.2.2.2.2.1
            have g3 := hg _ _ _ _ q3
            have l3 := g3.2.2.len1 hc
            refine r_run 3 (pc' := 71) (ls' := [some (yr 27), some (yi x), some (yi (-7))]) (st' := [yi (-7), yr 29]) (M' := M3) (N' := N) rfl ?_
            refine r_virtual (mj := 43) (b := 29) (as := [yi (-7)]) (rest := []) f_11_71 (by decide) rfl m_43 (by decide) (by decide) (by decide) rfl rfl (Nat.le_of_ble_eq_true rfl) (by omega) (c_addX (y := 17) d3 (by omega) (by decide)) ?_
            rintro _ M4 _ ⟨rfl, ⟨d4, a4, b4⟩, rfl⟩
            refine r_run 2 (pc' := 11) (ls' := [some (yr 27), some (yi (x + 1)), some (yi (-7))]) (st' := []) (M' := M4) (N' := N) rfl ?_
            exfalso; omega
          · refine r_run 1 (pc' := 65) (ls' := [some (yr 27), some (yi x), some (yi (-7))]) (st' := [yi 0]) (M' := M3) (N' := N) rfl ?_
            refine r_zret m_11 rfl f_11_65 (by omega) ?_
            exfalso; omega
        · refine r_run 3 (pc' := 53) (ls' := [some (yr 27), some (yi x), some (yi (-6))]) (st' := []) (M' := M) (N' := N) rfl ?_
          have hop : ¬ (opS (tkK T n i) = 0) := by unfold opS; rw [if_pos (by omega)]; decide
          refine r_run 1 (pc' := 54) (ls' := [some (yr 27), some (yi x), some (yi (-6))]) (st' := [yr 27]) (M' := M) (N' := N) rfl ?_
          refine r_virtual (mj := 15) (b := 27) (as := []) (rest := []) f_11_54 (by decide) rfl m_15 (by decide) (by decide) (by decide) rfl rfl (Nat.le_of_ble_eq_true rfl) (by omega) (c_stepX ht hs.1 hs.2.1 hs.2.2.2.1) ?_
          rintro _ M2 _ ⟨rfl, ⟨s2, f2, u2⟩, rfl⟩
          have d2 := hdr.fr (f2 29 (by decide) ▸ rfl : M2 29 1 = M 29 1) (f2 30 (by decide))
          have t2 := s2.2.2.2.2.1
          refine r_run 1 (pc' := 58) (ls' := [some (yr 27), some (yi x), some (yi (-6))]) (st' := [yr 27]) (M' := M2) (N' := N) rfl ?_
          refine r_virtual (mj := 12) (b := 27) (as := []) (rest := []) f_11_58 (by decide) rfl m_12 (by decide) (by decide) (by decide) rfl rfl (Nat.le_of_ble_eq_true rfl) (by omega) (h M2 N (i + 1) c s2 d2 (u2.trans ho) (by omega)) ?_
          rintro _ M3 _ ⟨v3, rfl, hv3, rfl⟩
          have w3 := cx_v hv3
          refine r_if_ne (pc := 61) f_11_61 (by omega) (fun h61 => ?_) (fun h61 => ?_)
          · obtain ⟨i3, c3, q3, s3, d3, o3⟩ := cx_y hv3 (by omega)
            have t3 := s3.2.2.2.2.1
            have g3 := hg _ _ _ _ q3
            have l3 := g3.2.2.len1 hc
            refine r_run 3 (pc' := 71) (ls' := [some (yr 27), some (yi x), some (yi (-6))]) (st' := [yi (-6), yr 29]) (M' := M3) (N' := N) rfl ?_
            refine r_virtual (mj := 43) (b := 29) (as := [yi (-6)]) (rest := []) f_11_71 (by decide) rfl m_43 (by decide) (by decide) (by decide) rfl rfl (Nat.le_of_ble_eq_true rfl) (by omega) (c_addX (y := 16) d3 (by omega) (by decide)) ?_
            rintro _ M4 _ ⟨rfl, ⟨d4, a4, b4⟩, rfl⟩
            refine r_run 2 (pc' := 11) (ls' := [some (yr 27), some (yi (x + 1)), some (yi (-6))]) (st' := []) (M' := M4) (N' := N) rfl ?_
            have s4 : cSt T n M4 i3 := s3.fr (a4 28 (by decide) (by decide)) (fun k _ => by rw [a4 27 (by decide) (by decide)])
            refine r_post (ih (l2 := some (yi (-6))) (by omega) (by omega) s4 d4 (by rw [a4 27 (by decide) (by decide)]; exact o3) (by rw [List.length_cons]; exact l3)) ?_
            rintro _ M' _ ⟨v, rfl, hv, rfl⟩
            have ho2 : opS (tkK T n i) = 16 := by unfold opS; rw [if_pos (by omega)]
            refine ⟨v, rfl, hv.conv ?_ (((fr3.trans ⟨fun c h1 h2 h3 => f2 c h1, by rw [f2 29 (by decide)]⟩ hv3.2)).trans ⟨fun c h1 h2 h3 => a4 c h2 h3, b4⟩), rfl⟩
            refine (if_neg hop).trans ((if_pos (by rw [q3])).trans ?_)
            rw [q3, ho2]
          · refine r_run 1 (pc' := 65) (ls' := [some (yr 27), some (yi x), some (yi (-6))]) (st' := [yi 0]) (M' := M3) (N' := N) rfl ?_
            refine r_zret m_11 rfl f_11_65 (by omega) ?_
            obtain ⟨i3, c3, q3, s3⟩ := cx_n hv3 (by omega)
            refine ⟨0, rfl, ⟨Or.inr ⟨rfl, i3, c3, ?_, s3⟩, fr3.trans ⟨fun c h1 h2 h3 => f2 c h1, by rw [f2 29 (by decide)]⟩ hv3.2⟩, rfl⟩
            exact (if_neg hop).trans ((if_neg (by rw [q3]; exact nf)).trans q3)
      · refine r_run 3 (pc' := 33) (ls' := [some (yr 27), some (yi x), l2]) (st' := [yi 45, yi (M 27 5)]) (M' := M) (N' := N) rfl ?_
        refine r_icmp_ne (pc := 33) f_11_33 (by omega) (by omega) (fun h33 => ?_) (fun h33 => ?_)
        · refine r_run 1 (pc' := 81) (ls' := [some (yr 27), some (yi x), l2]) (st' := [yi 1]) (M' := M) (N' := N) rfl ?_
          refine r_zret m_11 rfl f_11_81 (by omega) ?_
          exact ⟨1, rfl, ⟨Or.inl ⟨rfl, i, c, if_pos (show opS (tkK T n i) = 0 by unfold opS; rw [if_neg (by omega), if_neg (by omega)]), hs, hdr, ho⟩, fr3.refl⟩, rfl⟩
        · refine r_run 3 (pc' := 42) (ls' := [some (yr 27), some (yi x), l2]) (st' := [yi 43, yi (M 27 5)]) (M' := M) (N' := N) rfl ?_
          refine r_icmp_ne (pc := 42) f_11_42 (by omega) (by omega) (fun h42 => ?_) (fun h42 => ?_)
          · refine r_run 2 (pc' := 53) (ls' := [some (yr 27), some (yi x), some (yi (-7))]) (st' := []) (M' := M) (N' := N) rfl ?_
            have hop : ¬ (opS (tkK T n i) = 0) := by unfold opS; rw [if_neg (by omega), if_pos (by omega)]; decide
            refine r_run 1 (pc' := 54) (ls' := [some (yr 27), some (yi x), some (yi (-7))]) (st' := [yr 27]) (M' := M) (N' := N) rfl ?_
            refine r_virtual (mj := 15) (b := 27) (as := []) (rest := []) f_11_54 (by decide) rfl m_15 (by decide) (by decide) (by decide) rfl rfl (Nat.le_of_ble_eq_true rfl) (by omega) (c_stepX ht hs.1 hs.2.1 hs.2.2.2.1) ?_
            rintro _ M2 _ ⟨rfl, ⟨s2, f2, u2⟩, rfl⟩
            have d2 := hdr.fr (f2 29 (by decide) ▸ rfl : M2 29 1 = M 29 1) (f2 30 (by decide))
            have t2 := s2.2.2.2.2.1
            refine r_run 1 (pc' := 58) (ls' := [some (yr 27), some (yi x), some (yi (-7))]) (st' := [yr 27]) (M' := M2) (N' := N) rfl ?_
            refine r_virtual (mj := 12) (b := 27) (as := []) (rest := []) f_11_58 (by decide) rfl m_12 (by decide) (by decide) (by decide) rfl rfl (Nat.le_of_ble_eq_true rfl) (by omega) (h M2 N (i + 1) c s2 d2 (u2.trans ho) (by omega)) ?_
            rintro _ M3 _ ⟨v3, rfl, hv3, rfl⟩
            have w3 := cx_v hv3
            refine r_if_ne (pc := 61) f_11_61 (by omega) (fun h61 => ?_) (fun h61 => ?_)
            · obtain ⟨i3, c3, q3, s3, d3, o3⟩ := cx_y hv3 (by omega)
              have t3 := s3.2.2.2.2.1
              have g3 := hg _ _ _ _ q3
              have l3 := g3.2.2.len1 hc
              refine r_run 3 (pc' := 71) (ls' := [some (yr 27), some (yi x), some (yi (-7))]) (st' := [yi (-7), yr 29]) (M' := M3) (N' := N) rfl ?_
              refine r_virtual (mj := 43) (b := 29) (as := [yi (-7)]) (rest := []) f_11_71 (by decide) rfl m_43 (by decide) (by decide) (by decide) rfl rfl (Nat.le_of_ble_eq_true rfl) (by omega) (c_addX (y := 17) d3 (by omega) (by decide)) ?_
              rintro _ M4 _ ⟨rfl, ⟨d4, a4, b4⟩, rfl⟩
              refine r_run 2 (pc' := 11) (ls' := [some (yr 27), some (yi (x + 1)), some (yi (-7))]) (st' := []) (M' := M4) (N' := N) rfl ?_
              have s4 : cSt T n M4 i3 := s3.fr (a4 28 (by decide) (by decide)) (fun k _ => by rw [a4 27 (by decide) (by decide)])
              refine r_post (ih (l2 := some (yi (-7))) (by omega) (by omega) s4 d4 (by rw [a4 27 (by decide) (by decide)]; exact o3) (by rw [List.length_cons]; exact l3)) ?_
              rintro _ M' _ ⟨v, rfl, hv, rfl⟩
              have ho2 : opS (tkK T n i) = 17 := by unfold opS; rw [if_neg (by omega), if_pos (by omega)]
              refine ⟨v, rfl, hv.conv ?_ (((fr3.trans ⟨fun c h1 h2 h3 => f2 c h1, by rw [f2 29 (by decide)]⟩ hv3.2)).trans ⟨fun c h1 h2 h3 => a4 c h2 h3, b4⟩), rfl⟩
              refine (if_neg hop).trans ((if_pos (by rw [q3])).trans ?_)
              rw [q3, ho2]
            · refine r_run 1 (pc' := 65) (ls' := [some (yr 27), some (yi x), some (yi (-7))]) (st' := [yi 0]) (M' := M3) (N' := N) rfl ?_
              refine r_zret m_11 rfl f_11_65 (by omega) ?_
              obtain ⟨i3, c3, q3, s3⟩ := cx_n hv3 (by omega)
              refine ⟨0, rfl, ⟨Or.inr ⟨rfl, i3, c3, ?_, s3⟩, fr3.trans ⟨fun c h1 h2 h3 => f2 c h1, by rw [f2 29 (by decide)]⟩ hv3.2⟩, rfl⟩
              exact (if_neg hop).trans ((if_neg (by rw [q3]; exact nf)).trans q3)
          · refine r_run 3 (pc' := 53) (ls' := [some (yr 27), some (yi x), some (yi (-6))]) (st' := []) (M' := M) (N' := N) rfl ?_
            have hop : ¬ (opS (tkK T n i) = 0) := by exfalso; omega
            refine r_run 1 (pc' := 54) (ls' := [some (yr 27), some (yi x), some (yi (-6))]) (st' := [yr 27]) (M' := M) (N' := N) rfl ?_
            refine r_virtual (mj := 15) (b := 27) (as := []) (rest := []) f_11_54 (by decide) rfl m_15 (by decide) (by decide) (by decide) rfl rfl (Nat.le_of_ble_eq_true rfl) (by omega) (c_stepX ht hs.1 hs.2.1 hs.2.2.2.1) ?_
            rintro _ M2 _ ⟨rfl, ⟨s2, f2, u2⟩, rfl⟩
            have d2 := hdr.fr (f2 29 (by decide) ▸ rfl : M2 29 1 = M 29 1) (f2 30 (by decide))
            have t2 := s2.2.2.2.2.1
            refine r_run 1 (pc' := 58) (ls' := [some (yr 27), some (yi x), some (yi (-6))]) (st' := [yr 27]) (M' := M2) (N' := N) rfl ?_
            refine r_virtual (mj := 12) (b := 27) (as := []) (rest := []) f_11_58 (by decide) rfl m_12 (by decide) (by decide) (by decide) rfl rfl (Nat.le_of_ble_eq_true rfl) (by omega) (h M2 N (i + 1) c s2 d2 (u2.trans ho) (by omega)) ?_
            rintro _ M3 _ ⟨v3, rfl, hv3, rfl⟩
            have w3 := cx_v hv3
            refine r_if_ne (pc := 61) f_11_61 (by omega) (fun h61 => ?_) (fun h61 => ?_)
            · obtain ⟨i3, c3, q3, s3, d3, o3⟩ := cx_y hv3 (by omega)
              have t3 := s3.2.2.2.2.1
              have g3 := hg _ _ _ _ q3
              have l3 := g3.2.2.len1 hc
              refine r_run 3 (pc' := 71) (ls' := [some (yr 27), some (yi x), some (yi (-6))]) (st' := [yi (-6), yr 29]) (M' := M3) (N' := N) rfl ?_
              refine r_virtual (mj := 43) (b := 29) (as := [yi (-6)]) (rest := []) f_11_71 (by decide) rfl m_43 (by decide) (by decide) (by decide) rfl rfl (Nat.le_of_ble_eq_true rfl) (by omega) (c_addX (y := 16) d3 (by omega) (by decide)) ?_
              rintro _ M4 _ ⟨rfl, ⟨d4, a4, b4⟩, rfl⟩
              refine r_run 2 (pc' := 11) (ls' := [some (yr 27), some (yi (x + 1)), some (yi (-6))]) (st' := []) (M' := M4) (N' := N) rfl ?_
              exfalso; omega
            · refine r_run 1 (pc' := 65) (ls' := [some (yr 27), some (yi x), some (yi (-6))]) (st' := [yi 0]) (M' := M3) (N' := N) rfl ?_
              refine r_zret m_11 rfl f_11_65 (by omega) ?_
              exfalso; omega
theorem c_sum {S : XS} {T : Int → Int} {n : Int} {d d1 : Nat} {o : Int} {sub : pF} (ht : tpOk T n) (hd : d1 < d) (h7 : 7 < d) (hg : gd sub) (h : CX S T n d1 12 o sub) : CX S T n d 11 o (sqs (tkK T n) opS sub) := by
  intro M N i c hs hdr ho hc
  refine ⟨xe_11, m_11, Nat.le_of_ble_eq_true rfl, ?_⟩
  refine r_run 1 (pc' := 1) (ls' := [some (yr 27), none, none]) (st' := [yr 27]) (M' := M) (N' := N) rfl ?_
  refine r_virtual (mj := 12) (b := 27) (as := []) (rest := []) f_11_1 (by decide) rfl m_12 (by decide) (by decide) (by decide) rfl rfl (Nat.le_of_ble_eq_true rfl) (by omega) (h M N i c hs hdr ho hc) ?_
  rintro _ M1 _ ⟨v1, rfl, hv1, rfl⟩
  have w1 := cx_v hv1
  refine r_if_ne (pc := 4) f_11_4 (by omega) (fun h4 => ?_) (fun h4 => ?_)
  · refine r_run 2 (pc' := 11) (ls' := [some (yr 27), some (yi 0), none]) (st' := []) (M' := M1) (N' := N) rfl ?_
    obtain ⟨i1, c1, q1, s1, dd1, o1⟩ := cx_y hv1 (by omega)
    have t1 := s1.2.2.2.2.1
    have g1 := hg _ _ _ _ q1
    refine r_post (c_sum_l (j := 160) ht hd h7 hg h (Int.le_refl 0) (by omega) s1 dd1 o1 (g1.2.2.len hc)) ?_
    rintro _ M' _ ⟨v, rfl, hv, rfl⟩
    refine ⟨v, rfl, hv.conv ?_ hv1.2, rfl⟩
    refine (if_pos (by rw [q1])).trans ?_
    rw [q1]
  · refine r_run 1 (pc' := 8) (ls' := [some (yr 27), none, none]) (st' := [yi 0]) (M' := M1) (N' := N) rfl ?_
    refine r_zret m_11 rfl f_11_8 (by omega) ?_
    obtain ⟨i1, c1, q1, s1⟩ := cx_n hv1 (by omega)
    refine ⟨0, rfl, ⟨Or.inr ⟨rfl, i1, c1, ?_, s1⟩, hv1.2⟩, rfl⟩
    exact (if_neg (by rw [q1]; exact nf)).trans q1
theorem c_all_l {S : XS} {d : Nat} {T : Int → Int} {n : Int} {d1 : Nat} {o : Int} {sub : pF} {N : YM} (ht : tpOk T n) (hd : d1 < d) (h7 : 7 < d) (hg : gd sub) (h : CX S T n d1 10 o sub) {j : Nat} : ∀ {x : Int} {M : YM} {i : Nat} {c : List Int}, 0 ≤ x → x + j = 160 → cSt T n M i → drf M c → M 27 7 = o → c.length ≤ i → ry S d 9 11 [some (yr 27), some (yi x)] [] M N (fun r M' N' => ∃ v : Int, some (yi v) = r ∧ cxP T n (sqL (tkK T n) opA sub j i c) o M v M' ∧ N = N') := by
  induction j with
  | zero =>
    intro x M i c h0 h1 hs hdr ho hc
    have t0 := hs.2.2.2.2.1
    have ki := tkK_in ht i
    refine r_run 2 (pc' := 15) (ls' := [some (yr 27), some (yi x)]) (st' := [yi 160, yi x]) (M' := M) (N' := N) rfl ?_
    refine r_icmp_ge (pc := 15) f_9_15 (by omega) (by omega) (fun h15 => ?_) (fun h15 => ?_)
    · refine r_run 1 (pc' := 55) (ls' := [some (yr 27), some (yi x)]) (st' := [yi 1]) (M' := M) (N' := N) rfl ?_
      refine r_zret m_9 rfl f_9_55 (by omega) ?_
      exact ⟨1, rfl, ⟨Or.inl ⟨rfl, i, c, rfl, hs, hdr, ho⟩, fr3.refl⟩, rfl⟩
    · exfalso; omega
  | succ j ih =>
    intro x M i c h0 h1 hs hdr ho hc
    have t0 := hs.2.2.2.2.1
    have ki := tkK_in ht i
    refine r_run 2 (pc' := 15) (ls' := [some (yr 27), some (yi x)]) (st' := [yi 160, yi x]) (M' := M) (N' := N) rfl ?_
    refine r_icmp_ge (pc := 15) f_9_15 (by omega) (by omega) (fun h15 => ?_) (fun h15 => ?_)
    · refine r_run 1 (pc' := 55) (ls' := [some (yr 27), some (yi x)]) (st' := [yi 1]) (M' := M) (N' := N) rfl ?_
      refine r_zret m_9 rfl f_9_55 (by omega) ?_
      exact ⟨1, rfl, ⟨Or.inl ⟨rfl, i, c, if_pos (show opA (tkK T n i) = 0 by unfold opA; rw [if_neg (by omega)]), hs, hdr, ho⟩, fr3.refl⟩, rfl⟩
    · refine r_run 3 (pc' := 23) (ls' := [some (yr 27), some (yi x)]) (st' := [yi 5, yi (M 27 5)]) (M' := M) (N' := N) rfl ?_
      refine r_icmp_ne (pc := 23) f_9_23 (by omega) (by omega) (fun h23 => ?_) (fun h23 => ?_)
      · refine r_run 1 (pc' := 55) (ls' := [some (yr 27), some (yi x)]) (st' := [yi 1]) (M' := M) (N' := N) rfl ?_
        refine r_zret m_9 rfl f_9_55 (by omega) ?_
        exact ⟨1, rfl, ⟨Or.inl ⟨rfl, i, c, if_pos (show opA (tkK T n i) = 0 by unfold opA; rw [if_neg (by omega)]), hs, hdr, ho⟩, fr3.refl⟩, rfl⟩
      · have hop : ¬ (opA (tkK T n i) = 0) := by unfold opA; rw [if_pos (by omega)]; decide
        refine r_run 1 (pc' := 27) (ls' := [some (yr 27), some (yi x)]) (st' := [yr 27]) (M' := M) (N' := N) rfl ?_
        refine r_virtual (mj := 15) (b := 27) (as := []) (rest := []) f_9_27 (by decide) rfl m_15 (by decide) (by decide) (by decide) rfl rfl (Nat.le_of_ble_eq_true rfl) (by omega) (c_stepX ht hs.1 hs.2.1 hs.2.2.2.1) ?_
        rintro _ M2 _ ⟨rfl, ⟨s2, f2, u2⟩, rfl⟩
        have d2 := hdr.fr (f2 29 (by decide) ▸ rfl : M2 29 1 = M 29 1) (f2 30 (by decide))
        have t2 := s2.2.2.2.2.1
        refine r_run 1 (pc' := 31) (ls' := [some (yr 27), some (yi x)]) (st' := [yr 27]) (M' := M2) (N' := N) rfl ?_
        refine r_virtual (mj := 10) (b := 27) (as := []) (rest := []) f_9_31 (by decide) rfl m_10 (by decide) (by decide) (by decide) rfl rfl (Nat.le_of_ble_eq_true rfl) (by omega) (h M2 N (i + 1) c s2 d2 (u2.trans ho) (by omega)) ?_
        rintro _ M3 _ ⟨v3, rfl, hv3, rfl⟩
        have w3 := cx_v hv3
        refine r_if_ne (pc := 34) f_9_34 (by omega) (fun h34 => ?_) (fun h34 => ?_)
        · obtain ⟨i3, c3, q3, s3, d3, o3⟩ := cx_y hv3 (by omega)
          have t3 := s3.2.2.2.2.1
          have g3 := hg _ _ _ _ q3
          have l3 := g3.2.2.len1 hc
          refine r_run 3 (pc' := 45) (ls' := [some (yr 27), some (yi x)]) (st' := [yi (-2), yr 29]) (M' := M3) (N' := N) rfl ?_
          refine r_virtual (mj := 43) (b := 29) (as := [yi (-2)]) (rest := []) f_9_45 (by decide) rfl m_43 (by decide) (by decide) (by decide) rfl rfl (Nat.le_of_ble_eq_true rfl) (by omega) (c_addX (y := 12) d3 (by omega) (by decide)) ?_
          rintro _ M4 _ ⟨rfl, ⟨d4, a4, b4⟩, rfl⟩
          refine r_run 2 (pc' := 11) (ls' := [some (yr 27), some (yi (x + 1))]) (st' := []) (M' := M4) (N' := N) rfl ?_
          have s4 : cSt T n M4 i3 := s3.fr (a4 28 (by decide) (by decide)) (fun k _ => by rw [a4 27 (by decide) (by decide)])
          refine r_post (ih (by omega) (by omega) s4 d4 (by rw [a4 27 (by decide) (by decide)]; exact o3) (by rw [List.length_cons]; exact l3)) ?_
          rintro _ M' _ ⟨v, rfl, hv, rfl⟩
          have ho2 : opA (tkK T n i) = 12 := by unfold opA; rw [if_pos (by omega)]
          refine ⟨v, rfl, hv.conv ?_ (((fr3.trans ⟨fun c h1 h2 h3 => f2 c h1, by rw [f2 29 (by decide)]⟩ hv3.2)).trans ⟨fun c h1 h2 h3 => a4 c h2 h3, b4⟩), rfl⟩
          refine (if_neg hop).trans ((if_pos (by rw [q3])).trans ?_)
          rw [q3, ho2]
        · refine r_run 1 (pc' := 38) (ls' := [some (yr 27), some (yi x)]) (st' := [yi 0]) (M' := M3) (N' := N) rfl ?_
          refine r_zret m_9 rfl f_9_38 (by omega) ?_
          obtain ⟨i3, c3, q3, s3⟩ := cx_n hv3 (by omega)
          refine ⟨0, rfl, ⟨Or.inr ⟨rfl, i3, c3, ?_, s3⟩, fr3.trans ⟨fun c h1 h2 h3 => f2 c h1, by rw [f2 29 (by decide)]⟩ hv3.2⟩, rfl⟩
          exact (if_neg hop).trans ((if_neg (by rw [q3]; exact nf)).trans q3)
theorem c_all {S : XS} {T : Int → Int} {n : Int} {d d1 : Nat} {o : Int} {sub : pF} (ht : tpOk T n) (hd : d1 < d) (h7 : 7 < d) (hg : gd sub) (h : CX S T n d1 10 o sub) : CX S T n d 9 o (sqs (tkK T n) opA sub) := by
  intro M N i c hs hdr ho hc
  refine ⟨xe_9, m_9, Nat.le_of_ble_eq_true rfl, ?_⟩
  refine r_run 1 (pc' := 1) (ls' := [some (yr 27), none]) (st' := [yr 27]) (M' := M) (N' := N) rfl ?_
  refine r_virtual (mj := 10) (b := 27) (as := []) (rest := []) f_9_1 (by decide) rfl m_10 (by decide) (by decide) (by decide) rfl rfl (Nat.le_of_ble_eq_true rfl) (by omega) (h M N i c hs hdr ho hc) ?_
  rintro _ M1 _ ⟨v1, rfl, hv1, rfl⟩
  have w1 := cx_v hv1
  refine r_if_ne (pc := 4) f_9_4 (by omega) (fun h4 => ?_) (fun h4 => ?_)
  · refine r_run 2 (pc' := 11) (ls' := [some (yr 27), some (yi 0)]) (st' := []) (M' := M1) (N' := N) rfl ?_
    obtain ⟨i1, c1, q1, s1, dd1, o1⟩ := cx_y hv1 (by omega)
    have t1 := s1.2.2.2.2.1
    have g1 := hg _ _ _ _ q1
    refine r_post (c_all_l (j := 160) ht hd h7 hg h (Int.le_refl 0) (by omega) s1 dd1 o1 (g1.2.2.len hc)) ?_
    rintro _ M' _ ⟨v, rfl, hv, rfl⟩
    refine ⟨v, rfl, hv.conv ?_ hv1.2, rfl⟩
    refine (if_pos (by rw [q1])).trans ?_
    rw [q1]
  · refine r_run 1 (pc' := 8) (ls' := [some (yr 27), none]) (st' := [yi 0]) (M' := M1) (N' := N) rfl ?_
    refine r_zret m_9 rfl f_9_8 (by omega) ?_
    obtain ⟨i1, c1, q1, s1⟩ := cx_n hv1 (by omega)
    refine ⟨0, rfl, ⟨Or.inr ⟨rfl, i1, c1, ?_, s1⟩, hv1.2⟩, rfl⟩
    exact (if_neg (by rw [q1]; exact nf)).trans q1
theorem c_any_l {S : XS} {d : Nat} {T : Int → Int} {n : Int} {d1 : Nat} {o : Int} {sub : pF} {N : YM} (ht : tpOk T n) (hd : d1 < d) (h7 : 7 < d) (hg : gd sub) (h : CX S T n d1 9 o sub) {j : Nat} : ∀ {x : Int} {M : YM} {i : Nat} {c : List Int}, 0 ≤ x → x + j = 160 → cSt T n M i → drf M c → M 27 7 = o → c.length ≤ i → ry S d 8 11 [some (yr 27), some (yi x)] [] M N (fun r M' N' => ∃ v : Int, some (yi v) = r ∧ cxP T n (sqL (tkK T n) opO sub j i c) o M v M' ∧ N = N') := by
  induction j with
  | zero =>
    intro x M i c h0 h1 hs hdr ho hc
    have t0 := hs.2.2.2.2.1
    have ki := tkK_in ht i
    refine r_run 2 (pc' := 15) (ls' := [some (yr 27), some (yi x)]) (st' := [yi 160, yi x]) (M' := M) (N' := N) rfl ?_
    refine r_icmp_ge (pc := 15) f_8_15 (by omega) (by omega) (fun h15 => ?_) (fun h15 => ?_)
    · refine r_run 1 (pc' := 54) (ls' := [some (yr 27), some (yi x)]) (st' := [yi 1]) (M' := M) (N' := N) rfl ?_
      refine r_zret m_8 rfl f_8_54 (by omega) ?_
      exact ⟨1, rfl, ⟨Or.inl ⟨rfl, i, c, rfl, hs, hdr, ho⟩, fr3.refl⟩, rfl⟩
    · exfalso; omega
  | succ j ih =>
    intro x M i c h0 h1 hs hdr ho hc
    have t0 := hs.2.2.2.2.1
    have ki := tkK_in ht i
    refine r_run 2 (pc' := 15) (ls' := [some (yr 27), some (yi x)]) (st' := [yi 160, yi x]) (M' := M) (N' := N) rfl ?_
    refine r_icmp_ge (pc := 15) f_8_15 (by omega) (by omega) (fun h15 => ?_) (fun h15 => ?_)
    · refine r_run 1 (pc' := 54) (ls' := [some (yr 27), some (yi x)]) (st' := [yi 1]) (M' := M) (N' := N) rfl ?_
      refine r_zret m_8 rfl f_8_54 (by omega) ?_
      exact ⟨1, rfl, ⟨Or.inl ⟨rfl, i, c, if_pos (show opO (tkK T n i) = 0 by unfold opO; rw [if_neg (by omega)]), hs, hdr, ho⟩, fr3.refl⟩, rfl⟩
    · refine r_run 3 (pc' := 23) (ls' := [some (yr 27), some (yi x)]) (st' := [yi 4, yi (M 27 5)]) (M' := M) (N' := N) rfl ?_
      refine r_icmp_ne (pc := 23) f_8_23 (by omega) (by omega) (fun h23 => ?_) (fun h23 => ?_)
      · refine r_run 1 (pc' := 54) (ls' := [some (yr 27), some (yi x)]) (st' := [yi 1]) (M' := M) (N' := N) rfl ?_
        refine r_zret m_8 rfl f_8_54 (by omega) ?_
        exact ⟨1, rfl, ⟨Or.inl ⟨rfl, i, c, if_pos (show opO (tkK T n i) = 0 by unfold opO; rw [if_neg (by omega)]), hs, hdr, ho⟩, fr3.refl⟩, rfl⟩
      · have hop : ¬ (opO (tkK T n i) = 0) := by unfold opO; rw [if_pos (by omega)]; decide
        refine r_run 1 (pc' := 27) (ls' := [some (yr 27), some (yi x)]) (st' := [yr 27]) (M' := M) (N' := N) rfl ?_
        refine r_virtual (mj := 15) (b := 27) (as := []) (rest := []) f_8_27 (by decide) rfl m_15 (by decide) (by decide) (by decide) rfl rfl (Nat.le_of_ble_eq_true rfl) (by omega) (c_stepX ht hs.1 hs.2.1 hs.2.2.2.1) ?_
        rintro _ M2 _ ⟨rfl, ⟨s2, f2, u2⟩, rfl⟩
        have d2 := hdr.fr (f2 29 (by decide) ▸ rfl : M2 29 1 = M 29 1) (f2 30 (by decide))
        have t2 := s2.2.2.2.2.1
        refine r_run 1 (pc' := 31) (ls' := [some (yr 27), some (yi x)]) (st' := [yr 27]) (M' := M2) (N' := N) rfl ?_
        refine r_virtual (mj := 9) (b := 27) (as := []) (rest := []) f_8_31 (by decide) rfl m_9 (by decide) (by decide) (by decide) rfl rfl (Nat.le_of_ble_eq_true rfl) (by omega) (h M2 N (i + 1) c s2 d2 (u2.trans ho) (by omega)) ?_
        rintro _ M3 _ ⟨v3, rfl, hv3, rfl⟩
        have w3 := cx_v hv3
        refine r_if_ne (pc := 34) f_8_34 (by omega) (fun h34 => ?_) (fun h34 => ?_)
        · obtain ⟨i3, c3, q3, s3, d3, o3⟩ := cx_y hv3 (by omega)
          have t3 := s3.2.2.2.2.1
          have g3 := hg _ _ _ _ q3
          have l3 := g3.2.2.len1 hc
          refine r_run 3 (pc' := 44) (ls' := [some (yr 27), some (yi x)]) (st' := [yi (-1), yr 29]) (M' := M3) (N' := N) rfl ?_
          refine r_virtual (mj := 43) (b := 29) (as := [yi (-1)]) (rest := []) f_8_44 (by decide) rfl m_43 (by decide) (by decide) (by decide) rfl rfl (Nat.le_of_ble_eq_true rfl) (by omega) (c_addX (y := 11) d3 (by omega) (by decide)) ?_
          rintro _ M4 _ ⟨rfl, ⟨d4, a4, b4⟩, rfl⟩
          refine r_run 2 (pc' := 11) (ls' := [some (yr 27), some (yi (x + 1))]) (st' := []) (M' := M4) (N' := N) rfl ?_
          have s4 : cSt T n M4 i3 := s3.fr (a4 28 (by decide) (by decide)) (fun k _ => by rw [a4 27 (by decide) (by decide)])
          refine r_post (ih (by omega) (by omega) s4 d4 (by rw [a4 27 (by decide) (by decide)]; exact o3) (by rw [List.length_cons]; exact l3)) ?_
          rintro _ M' _ ⟨v, rfl, hv, rfl⟩
          have ho2 : opO (tkK T n i) = 11 := by unfold opO; rw [if_pos (by omega)]
          refine ⟨v, rfl, hv.conv ?_ (((fr3.trans ⟨fun c h1 h2 h3 => f2 c h1, by rw [f2 29 (by decide)]⟩ hv3.2)).trans ⟨fun c h1 h2 h3 => a4 c h2 h3, b4⟩), rfl⟩
          refine (if_neg hop).trans ((if_pos (by rw [q3])).trans ?_)
          rw [q3, ho2]
        · refine r_run 1 (pc' := 38) (ls' := [some (yr 27), some (yi x)]) (st' := [yi 0]) (M' := M3) (N' := N) rfl ?_
          refine r_zret m_8 rfl f_8_38 (by omega) ?_
          obtain ⟨i3, c3, q3, s3⟩ := cx_n hv3 (by omega)
          refine ⟨0, rfl, ⟨Or.inr ⟨rfl, i3, c3, ?_, s3⟩, fr3.trans ⟨fun c h1 h2 h3 => f2 c h1, by rw [f2 29 (by decide)]⟩ hv3.2⟩, rfl⟩
          exact (if_neg hop).trans ((if_neg (by rw [q3]; exact nf)).trans q3)
theorem c_any {S : XS} {T : Int → Int} {n : Int} {d d1 : Nat} {o : Int} {sub : pF} (ht : tpOk T n) (hd : d1 < d) (h7 : 7 < d) (hg : gd sub) (h : CX S T n d1 9 o sub) : CX S T n d 8 o (sqs (tkK T n) opO sub) := by
  intro M N i c hs hdr ho hc
  refine ⟨xe_8, m_8, Nat.le_of_ble_eq_true rfl, ?_⟩
  refine r_run 1 (pc' := 1) (ls' := [some (yr 27), none]) (st' := [yr 27]) (M' := M) (N' := N) rfl ?_
  refine r_virtual (mj := 9) (b := 27) (as := []) (rest := []) f_8_1 (by decide) rfl m_9 (by decide) (by decide) (by decide) rfl rfl (Nat.le_of_ble_eq_true rfl) (by omega) (h M N i c hs hdr ho hc) ?_
  rintro _ M1 _ ⟨v1, rfl, hv1, rfl⟩
  have w1 := cx_v hv1
  refine r_if_ne (pc := 4) f_8_4 (by omega) (fun h4 => ?_) (fun h4 => ?_)
  · refine r_run 2 (pc' := 11) (ls' := [some (yr 27), some (yi 0)]) (st' := []) (M' := M1) (N' := N) rfl ?_
    obtain ⟨i1, c1, q1, s1, dd1, o1⟩ := cx_y hv1 (by omega)
    have t1 := s1.2.2.2.2.1
    have g1 := hg _ _ _ _ q1
    refine r_post (c_any_l (j := 160) ht hd h7 hg h (Int.le_refl 0) (by omega) s1 dd1 o1 (g1.2.2.len hc)) ?_
    rintro _ M' _ ⟨v, rfl, hv, rfl⟩
    refine ⟨v, rfl, hv.conv ?_ hv1.2, rfl⟩
    refine (if_pos (by rw [q1])).trans ?_
    rw [q1]
  · refine r_run 1 (pc' := 8) (ls' := [some (yr 27), none]) (st' := [yi 0]) (M' := M1) (N' := N) rfl ?_
    refine r_zret m_8 rfl f_8_8 (by omega) ?_
    obtain ⟨i1, c1, q1, s1⟩ := cx_n hv1 (by omega)
    refine ⟨0, rfl, ⟨Or.inr ⟨rfl, i1, c1, ?_, s1⟩, hv1.2⟩, rfl⟩
    exact (if_neg (by rw [q1]; exact nf)).trans q1
