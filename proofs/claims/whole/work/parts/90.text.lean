/-! a whole text: class -/
theorem tf : ¬ (true = false) := by decide
def tx1 (K V : Nat → Int) : pR := pPt K V 0 0 []
def tx2 (K V : Nat → Int) : pR := pPt K V 1 (tx1 K V).2.1 (tx1 K V).2.2
def tx3 (K V : Nat → Int) : pR := pPt K V 2 (tx2 K V).2.1 (tx2 K V).2.2
def txOk (K V : Nat → Int) : Prop := (tx1 K V).1 = true ∧ (tx2 K V).1 = true ∧ (tx3 K V).1 = true ∧ K (tx3 K V).2.1 = 0
def txAt (K V : Nat → Int) : Nat := if (tx1 K V).1 = false then (tx1 K V).2.1 else if (tx2 K V).1 = false then (tx2 K V).2.1 else (tx3 K V).2.1
theorem pt_v {T : Int → Int} {n p : Int} {q : pR} {v : Int} {M' : YM} (h : ptP T n p q v M') : v = 0 ∨ v = 1 := by
  rcases h with ⟨a, -⟩ | ⟨a, -⟩
  · exact Or.inr a
  · exact Or.inl a
theorem pt_y {T : Int → Int} {n p : Int} {q : pR} {v : Int} {M' : YM} (h : ptP T n p q v M') (g : v ≠ 0) : ∃ i' c', q = (true, i', c') ∧ cSt T n M' i' ∧ drf M' c' ∧ M' 27 7 = 0 ∧ M' 31 p = c'.length ∧ (p = 0 → nmP M' c') := by
  rcases h with ⟨-, b⟩ | ⟨a, -⟩
  · exact b
  · exact absurd a g
theorem pt_n {T : Int → Int} {n p : Int} {q : pR} {v : Int} {M' : YM} (h : ptP T n p q v M') (g : v = 0) : ∃ i' c', q = (false, i', c') ∧ cSt T n M' i' := by
  rcases h with ⟨a, -⟩ | ⟨-, b⟩
  · omega
  · exact b
theorem pPt_ext {K V : Nat → Int} (hk : tkOk K V) {p : Int} {i : Nat} {c : List Int} {i' : Nat} {c' : List Int} (h : pPt K V p i c = (true, i', c')) : i + 1 < i' ∧ i' ≤ 160 ∧ ext (i + 1) c i' c' 1 := by
  unfold pPt at h
  split at h
  · split at h
    · rename_i g
      have a := pE_ext hk (pR_mk g)
      have e := pR_eta h
      have e1 : (pE K V (i + 1) c).2.1 + 1 = i' := e.2.1
      have e2 : (pE K V (i + 1) c).2.2 = c' := e.2.2
      rw [← e1, ← e2]
      exact ⟨by omega, by omega, a.2.2.2.more (by omega)⟩
    · rename_i g; rw [h] at g; exact absurd rfl g
  · exact absurd (show false = true from (pR_eta h).1) (by decide)
def nmL (nm : Int) (c : List Int) : Prop := (0 ≤ nm ∧ nm < 64) ∧ ∀ x ∈ c, 10000 ≤ tEnc x → nm / 2 ^ (tEnc x - 10000).toNat % 2 = 1
theorem crep_has {R : Int → Int} {f : Int → Int} {c : List Int} : crep R 0 (c.map f) → ∀ x ∈ c, ∃ k : Int, 0 ≤ k ∧ k < c.length ∧ R k = f x := by
  induction c with
  | nil => intro _ x hx; exact absurd hx List.not_mem_nil
  | cons y c ih =>
    intro h x hx
    have e : ((y :: c).length : Int) = c.length + 1 := by rw [List.length_cons]; rfl
    rcases List.mem_cons.mp hx with rfl | hx
    · refine ⟨c.length, by omega, by omega, ?_⟩
      have h1 : R (0 + ((c.map f).length : Int)) = f x := h.1
      rw [List.length_map, Int.zero_add] at h1
      exact h1
    · obtain ⟨k, k0, k1, k2⟩ := ih h.2 x hx
      exact ⟨k, k0, by omega, k2⟩
theorem nmP.l {M : YM} {c : List Int} (h : nmP M c) (d : drf M c) : nmL (M 29 3) c := ⟨h.1, fun x hx hb => by
  obtain ⟨k, k0, k1, k2⟩ := crep_has d.2 x hx
  have := h.2 k k0 k1 (by rw [k2]; exact hb)
  rw [k2] at this
  exact this⟩
def dfP (K V : Nat → Int) (M : YM) : Prop := txOk K V ∧ drf M (tx3 K V).2.2 ∧ M 31 0 = (tx1 K V).2.2.length ∧ M 31 1 = (tx2 K V).2.2.length ∧ M 31 2 = (tx3 K V).2.2.length ∧ nmL (M 29 3) (tx1 K V).2.2
def frR (M M' : YM) : Prop := ∀ c, c ≠ 27 → c ≠ 29 → c ≠ 30 → c ≠ 31 → M' c = M c
theorem c_read {S : XS} {T : Int → Int} {n : Int} {M N : YM} (ht : tpOk T n) (h8 : M 28 = T) (h1 : M 27 1 = n) : rm S 45 6 [yr 27] M N (fun r M' N' => ∃ v : Int, some (yi v) = r ∧ ((v = 1 ∧ dfP (tkK T n) (tkV T n) M') ∨ (v = 0 ∧ ¬ txOk (tkK T n) (tkV T n))) ∧ M' 27 3 = tb T n (txAt (tkK T n) (tkV T n)) ∧ M' 27 1 = 0 ∧ frR M M' ∧ N = N') := by
  refine ⟨xe_6, m_6, Nat.le_of_ble_eq_true rfl, ?_⟩
  refine r_run 2 (pc' := 4) (ls' := [some (yr 27), none]) (st' := [yr 29]) (M' := M) (N' := N) rfl ?_
  refine r_virtual (mj := 42) (b := 29) (as := []) (rest := []) f_6_4 (by decide) rfl m_42 (by decide) (by decide) (by decide) rfl rfl (Nat.le_of_ble_eq_true rfl) (by omega) (c_clear) ?_
  rintro _ _ _ ⟨rfl, rfl, rfl⟩
  refine r_run 7 (pc' := 18) (ls' := [some (yr 27), none]) (st' := [yr 27]) (M' := (yu (yu (yu (yu M 29 1 0) 29 3 0) 27 7 0) 27 4 0)) (N' := N) rfl ?_
  refine r_virtual (mj := 15) (b := 27) (as := []) (rest := []) f_6_18 (by decide) rfl m_15 (by decide) (by decide) (by decide) rfl rfl (Nat.le_of_ble_eq_true rfl) (by omega) (c_stepX (i := 0) ht (T := T) (n := n) (by rw [yu_rn (by decide), yu_rn (by decide), yu_rn (by decide), yu_rn (by decide)]; exact h8) (by rw [yu_ne (Or.inr (by decide)), yu_ne (Or.inr (by decide)), yu_ne (Or.inl (by decide)), yu_ne (Or.inl (by decide))]; exact h1) yu_at) ?_
  rintro _ M2 _ ⟨rfl, ⟨s2, f2, u2⟩, rfl⟩
  have d2 : drf M2 [] := ⟨by rw [f2 29 (by decide), yu_ne (Or.inl (by decide)), yu_ne (Or.inl (by decide)), yu_ne (Or.inr (by decide)), yu_at]; rfl, True.intro⟩
  have o2 : M2 27 7 = 0 := by rw [u2, yu_ne (Or.inr (by decide)), yu_at]
  refine r_run 2 (pc' := 23) (ls' := [some (yr 27), none]) (st' := [yi 0, yr 27]) (M' := M2) (N' := N) rfl ?_
  refine r_virtual (mj := 7) (b := 27) (as := [yi 0]) (rest := []) f_6_23 (by decide) rfl m_7 (by decide) (by decide) (by decide) rfl rfl (Nat.le_of_ble_eq_true rfl) (by omega) (c_part0 ht s2 d2 o2 (Nat.le_refl _) (fun y hy => absurd hy List.not_mem_nil)) ?_
  rintro _ M3 _ ⟨v3, rfl, hv3, f3, rfl⟩
  have w3 := pt_v hv3
  refine r_if_eq (pc := 26) f_6_26 (by omega) (fun h26 => ?_) (fun h26 => ?_)
  · refine r_run 6 (pc' := 64) (ls' := [some (yr 27), some (yi 0)]) (st' := [yi 0]) (M' := (yu M3 27 1 0)) (N' := N) rfl ?_
    refine r_zret m_6 rfl f_6_64 (by omega) ?_
    obtain ⟨i3, c3, q3, s3⟩ := pt_n hv3 (by omega)
    have q3' : tx1 (tkK T n) (tkV T n) = (false, i3, c3) := q3
    have ha : txAt (tkK T n) (tkV T n) = i3 := by unfold txAt; rw [q3']; exact if_pos rfl
    exact ⟨0, rfl, Or.inr ⟨rfl, fun h => by have h1 := h.1; rw [q3'] at h1; exact nf h1⟩, by rw [yu_ne (Or.inr (by decide)), s3.2.2.1, ha], yu_at, fun c h1 h2 h3 h4 => by rw [yu_rn h1, f3.1 c h1 h2 h3 h4, f2 c h1, yu_rn h1, yu_rn h1, yu_rn h2, yu_rn h2], rfl⟩
  · obtain ⟨i3, c3, q3, s3, d3, o3, e3, n3⟩ := pt_y hv3 (by omega)
    have q3' : tx1 (tkK T n) (tkV T n) = (true, i3, c3) := q3
    have g3 := pPt_ext (tk_ok ht) q3
    have l3 : c3.length ≤ i3 := g3.2.2.len (by show 0 ≤ _; omega)
    refine r_run 2 (pc' := 31) (ls' := [some (yr 27), none]) (st' := [yi 1, yr 27]) (M' := M3) (N' := N) rfl ?_
    refine r_virtual (mj := 7) (b := 27) (as := [yi 1]) (rest := []) f_6_31 (by decide) rfl m_7 (by decide) (by decide) (by decide) rfl rfl (Nat.le_of_ble_eq_true rfl) (by omega) (c_part1 ht s3 d3 o3 l3 (by decide)) ?_
    rintro _ M5 _ ⟨v5, rfl, hv5, f5, rfl⟩
    have w5 := pt_v hv5
    refine r_if_eq (pc := 34) f_6_34 (by omega) (fun h34 => ?_) (fun h34 => ?_)
    · refine r_run 6 (pc' := 64) (ls' := [some (yr 27), some (yi 0)]) (st' := [yi 0]) (M' := (yu M5 27 1 0)) (N' := N) rfl ?_
      refine r_zret m_6 rfl f_6_64 (by omega) ?_
      obtain ⟨i5, c5, q5, s5⟩ := pt_n hv5 (by omega)
      have q5' : tx2 (tkK T n) (tkV T n) = (false, i5, c5) := by unfold tx2; rw [q3']; exact q5
      have ha : txAt (tkK T n) (tkV T n) = i5 := by unfold txAt; rw [q3', q5']; exact (if_neg tf).trans (if_pos rfl)
      exact ⟨0, rfl, Or.inr ⟨rfl, fun h => by have h1 := h.2.1; rw [q5'] at h1; exact nf h1⟩, by rw [yu_ne (Or.inr (by decide)), s5.2.2.1, ha], yu_at, fun c h1 h2 h3 h4 => by rw [yu_rn h1, f5.1 c h1 h2 h3 h4, f3.1 c h1 h2 h3 h4, f2 c h1, yu_rn h1, yu_rn h1, yu_rn h2, yu_rn h2], rfl⟩
    · obtain ⟨i5, c5, q5, s5, d5, o5, e5, -⟩ := pt_y hv5 (by omega)
      have q5' : tx2 (tkK T n) (tkV T n) = (true, i5, c5) := by unfold tx2; rw [q3']; exact q5
      have g5 := pPt_ext (tk_ok ht) q5
      have l5 : c5.length ≤ i5 := g5.2.2.len (by omega)
      refine r_run 2 (pc' := 39) (ls' := [some (yr 27), none]) (st' := [yi 2, yr 27]) (M' := M5) (N' := N) rfl ?_
      refine r_virtual (mj := 7) (b := 27) (as := [yi 2]) (rest := []) f_6_39 (by decide) rfl m_7 (by decide) (by decide) (by decide) rfl rfl (Nat.le_of_ble_eq_true rfl) (by omega) (c_part1 ht s5 d5 o5 l5 (by decide)) ?_
      rintro _ M7 _ ⟨v7, rfl, hv7, f7, rfl⟩
      have w7 := pt_v hv7
      refine r_if_eq (pc := 42) f_6_42 (by omega) (fun h42 => ?_) (fun h42 => ?_)
      · refine r_run 6 (pc' := 64) (ls' := [some (yr 27), some (yi 0)]) (st' := [yi 0]) (M' := (yu M7 27 1 0)) (N' := N) rfl ?_
        refine r_zret m_6 rfl f_6_64 (by omega) ?_
        obtain ⟨i7, c7, q7, s7⟩ := pt_n hv7 (by omega)
        have q7' : tx3 (tkK T n) (tkV T n) = (false, i7, c7) := by unfold tx3; rw [q5']; exact q7
        have ha : txAt (tkK T n) (tkV T n) = i7 := by unfold txAt; rw [q3', q5', q7']; exact (if_neg tf).trans (if_neg tf)
        exact ⟨0, rfl, Or.inr ⟨rfl, fun h => by have h1 := h.2.2.1; rw [q7'] at h1; exact nf h1⟩, by rw [yu_ne (Or.inr (by decide)), s7.2.2.1, ha], yu_at, fun c h1 h2 h3 h4 => by rw [yu_rn h1, f7.1 c h1 h2 h3 h4, f5.1 c h1 h2 h3 h4, f3.1 c h1 h2 h3 h4, f2 c h1, yu_rn h1, yu_rn h1, yu_rn h2, yu_rn h2], rfl⟩
      · refine r_run 2 (pc' := 49) (ls' := [some (yr 27), none]) (st' := [yi (M7 27 5)]) (M' := M7) (N' := N) rfl ?_
        refine r_if_ne (pc := 49) f_6_49 (by rcases hv7 with ⟨-, i7, c7, -, s7, -⟩ | ⟨-, i7, c7, -, s7⟩ <;> (have := s7.2.2.2.2.1; have := tkK_in ht i7; omega)) (fun h49 => ?_) (fun h49 => ?_)
        · refine r_run 6 (pc' := 64) (ls' := [some (yr 27), some (yi 0)]) (st' := [yi 0]) (M' := (yu M7 27 1 0)) (N' := N) rfl ?_
          refine r_zret m_6 rfl f_6_64 (by omega) ?_
          obtain ⟨i7, c7, q7, s7, d7, o7, e7, -⟩ := pt_y hv7 (by omega)
          have t7 := s7.2.2.2.2.1
          have q7' : tx3 (tkK T n) (tkV T n) = (true, i7, c7) := by unfold tx3; rw [q5']; exact q7
          have ha : txAt (tkK T n) (tkV T n) = i7 := by unfold txAt; rw [q3', q5', q7']; exact (if_neg tf).trans (if_neg tf)
          exact ⟨0, rfl, Or.inr ⟨rfl, fun h => by have h1 := h.2.2.2; rw [q7'] at h1; have h1 : tkK T n i7 = 0 := h1; omega⟩, by rw [yu_ne (Or.inr (by decide)), s7.2.2.1, ha], yu_at, fun c h1 h2 h3 h4 => by rw [yu_rn h1, f7.1 c h1 h2 h3 h4, f5.1 c h1 h2 h3 h4, f3.1 c h1 h2 h3 h4, f2 c h1, yu_rn h1, yu_rn h1, yu_rn h2, yu_rn h2], rfl⟩
        · refine r_run 7 (pc' := 64) (ls' := [some (yr 27), some (yi 1)]) (st' := [yi 1]) (M' := (yu M7 27 1 0)) (N' := N) rfl ?_
          refine r_zret m_6 rfl f_6_64 (by omega) ?_
          obtain ⟨i7, c7, q7, s7, d7, o7, e7, -⟩ := pt_y hv7 (by omega)
          have t7 := s7.2.2.2.2.1
          have q7' : tx3 (tkK T n) (tkV T n) = (true, i7, c7) := by unfold tx3; rw [q5']; exact q7
          have ha : txAt (tkK T n) (tkV T n) = i7 := by unfold txAt; rw [q3', q5', q7']; exact (if_neg tf).trans (if_neg tf)
          have hok : txOk (tkK T n) (tkV T n) := ⟨by rw [q3'], by rw [q5'], by rw [q7'], by rw [q7']; show tkK T n i7 = 0; omega⟩
          have hdf : dfP (tkK T n) (tkV T n) (yu M7 27 1 0) := by
            refine ⟨hok, ?_, ?_, ?_, ?_, ?_⟩
            · rw [q7']; exact d7.st fun c hc => yu_rn hc
            · rw [yu_rn (by decide), f7.2.1 0 (by decide), f5.2.1 0 (by decide), e3, q3']
            · rw [yu_rn (by decide), f7.2.1 1 (by decide), e5, q5']
            · rw [yu_rn (by decide), e7, q7']
            · rw [yu_ne (Or.inl (by decide)), f7.2.2 (by decide), f5.2.2 (by decide), q3']
              exact (n3 rfl).l d3
          exact ⟨1, rfl, Or.inl ⟨rfl, hdf⟩, by rw [yu_ne (Or.inr (by decide)), s7.2.2.1, ha], yu_at, fun c h1 h2 h3 h4 => by rw [yu_rn h1, f7.1 c h1 h2 h3 h4, f5.1 c h1 h2 h3 h4, f3.1 c h1 h2 h3 h4, f2 c h1, yu_rn h1, yu_rn h1, yu_rn h2, yu_rn h2], rfl⟩
theorem ycopy_n0 {M : YM} {a b n c k : Int} (h : c ≠ a) : ycopy M a b 0 0 n c k = M c k := if_neg (fun g => h g.1)
theorem ycopy_a0 {M : YM} {a b n k : Int} (h : 0 ≤ k ∧ k < n) : ycopy M a b 0 0 n a k = M b k := by
  unfold ycopy
  rw [if_pos ⟨rfl, h.1, by omega⟩, show 0 + (k - 0) = k by omega]
theorem c_txb {S : XS} {M N : YM} {t : Int} (ht : 0 ≤ t ∧ t < 6) : rm S 1 45 [yr (49 + 3 * t), yr 29] M N (fun r M' N' => none = r ∧ (M' (49 + 3 * t) 3 = M 29 3 ∧ (∀ k, 0 ≤ k → k < 160 → M' (50 + 3 * t) k = M 30 k) ∧ (∀ k, 0 ≤ k → k < 3 → M' (51 + 3 * t) k = M 31 k) ∧ ∀ c, c ≠ 49 + 3 * t → c ≠ 50 + 3 * t → c ≠ 51 + 3 * t → M' c = M c) ∧ N = N') := by
  refine ⟨xe_45, m_45, Nat.le_of_ble_eq_true rfl, ?_⟩
  refine r_run 3 (pc' := 5) (ls' := [some (yr (49 + 3 * t)), some (yr 29)]) (st' := [yi (M 29 1), yr (49 + 3 * t)]) (M' := M) (N' := N) rfl ?_
  refine r_putf (n := 4) 1 rfl f_45_5 (show xFT[27]? = some (5, 1) from rfl) (Or.inl (by decide)) (by omega) (yk_text (by omega)) ?_
  refine r_run 3 (pc' := 13) (ls' := [some (yr (49 + 3 * t)), some (yr 29)]) (st' := [yi ((yu M (49 + 3 * t) 1 (M 29 1)) 29 3), yr (49 + 3 * t)]) (M' := (yu M (49 + 3 * t) 1 (M 29 1))) (N' := N) rfl ?_
  refine r_putf (n := 4) 3 rfl f_45_13 (show xFT[29]? = some (5, 3) from rfl) (Or.inl (by decide)) (by omega) (yk_text (by omega)) ?_
  refine r_run 4 (pc' := 22) (ls' := [some (yr (49 + 3 * t)), some (yr 29)]) (st' := [yr (49 + 3 * t), yi 0, yr 30]) (M' := (yu (yu M (49 + 3 * t) 1 (M 29 1)) (49 + 3 * t) 3 ((yu M (49 + 3 * t) 1 (M 29 1)) 29 3))) (N' := N) rfl ?_
  refine r_getr (r := 50 + 3 * t) (n := 4) f_45_22 (by decide) (show xFT[26]? = some (5, 0) from rfl) (by decide) (by omega) (yk_text (by omega)) (rf_tcode (by omega)) ?_
  refine r_run 2 (pc' := 27) (ls' := [some (yr (49 + 3 * t)), some (yr 29)]) (st' := [yr (49 + 3 * t), yi 0, yr (50 + 3 * t), yi 0, yr 30]) (M' := (yu (yu M (49 + 3 * t) 1 (M 29 1)) (49 + 3 * t) 3 ((yu M (49 + 3 * t) 1 (M 29 1)) 29 3))) (N' := N) rfl ?_
  refine r_getr (r := 50 + 3 * t) (n := 4) f_45_27 (by decide) (show xFT[26]? = some (5, 0) from rfl) (by decide) (by omega) (yk_text (by omega)) (rf_tcode (by omega)) ?_
  refine r_alen (kd := 0) (n := 160) f_45_30 (by omega) (yk_tcode (by omega)) (by decide) ?_
  refine r_copy (na := 160) (nb := 160) f_45_31 (by omega) (by decide) (yk_tcode (by omega)) (by decide) (by omega) (by omega) (by omega) (by decide) (by decide) (Nat.le_of_ble_eq_true rfl) (by omega) ?_
  refine r_run 4 (pc' := 40) (ls' := [some (yr (49 + 3 * t)), some (yr 29)]) (st' := [yr (49 + 3 * t), yi 0, yr 31]) (M' := (ycopy (yu (yu M (49 + 3 * t) 1 (M 29 1)) (49 + 3 * t) 3 ((yu M (49 + 3 * t) 1 (M 29 1)) 29 3)) (50 + 3 * t) 30 0 0 160)) (N' := N) rfl ?_
  refine r_getr (r := 51 + 3 * t) (n := 4) f_45_40 (by decide) (show xFT[28]? = some (5, 2) from rfl) (by decide) (by omega) (yk_text (by omega)) (rf_tends (by omega)) ?_
  refine r_run 2 (pc' := 45) (ls' := [some (yr (49 + 3 * t)), some (yr 29)]) (st' := [yr (49 + 3 * t), yi 0, yr (51 + 3 * t), yi 0, yr 31]) (M' := (ycopy (yu (yu M (49 + 3 * t) 1 (M 29 1)) (49 + 3 * t) 3 ((yu M (49 + 3 * t) 1 (M 29 1)) 29 3)) (50 + 3 * t) 30 0 0 160)) (N' := N) rfl ?_
  refine r_getr (r := 51 + 3 * t) (n := 4) f_45_45 (by decide) (show xFT[28]? = some (5, 2) from rfl) (by decide) (by omega) (yk_text (by omega)) (rf_tends (by omega)) ?_
  refine r_alen (kd := 0) (n := 3) f_45_48 (by omega) (yk_tends (by omega)) (by decide) ?_
  refine r_copy (na := 3) (nb := 3) f_45_49 (by omega) (by decide) (yk_tends (by omega)) (by decide) (by omega) (by omega) (by omega) (by decide) (by decide) (Nat.le_of_ble_eq_true rfl) (by omega) ?_
  refine r_vret m_45 rfl f_45_52 ?_
  refine ⟨rfl, ⟨?_, fun k k0 k1 => ?_, fun k k0 k1 => ?_, fun c h1 h2 h3 => funext fun k => ?_⟩, rfl⟩
  · rw [ycopy_n0 (by omega), ycopy_n0 (by omega), yu_at, yu_ne (Or.inl (by omega))]
  · rw [ycopy_n0 (by omega), ycopy_a0 ⟨k0, k1⟩, yu_rn (by omega), yu_rn (by omega)]
  · rw [ycopy_a0 (n := ((3 : Nat) : Int)) ⟨k0, k1⟩, ycopy_n0 (by omega), yu_rn (by omega), yu_rn (by omega)]
  · rw [ycopy_n0 h3, ycopy_n0 h2, yu_ne (Or.inl h1), yu_ne (Or.inl h1)]
/-- what the class's text() does -/
def ctP (T : Int → Int) (n : Int) (M : YM) (v : Int) (M' : YM) : Prop :=
  (M 0 5 = 6 ∧ v = -4 ∧ M' = M) ∨
  (M 0 5 < 6 ∧ ¬ txOk (tkK T n) (tkV T n) ∧ v = -100 - tb T n (txAt (tkK T n) (tkV T n)) ∧ M' 27 1 = 0 ∧ frR M M') ∨
  (M 0 5 < 6 ∧ txOk (tkK T n) (tkV T n) ∧ v = M 0 5 ∧ M' 27 1 = 0 ∧ M' 0 5 = M 0 5 + 1 ∧ (∀ k, k ≠ 5 → M' 0 k = M 0 k) ∧ nmL (M' (49 + 3 * M 0 5) 3) (tx1 (tkK T n) (tkV T n)).2.2 ∧ crep (M' (50 + 3 * M 0 5)) 0 ((tx3 (tkK T n) (tkV T n)).2.2.map tEnc) ∧ M' (51 + 3 * M 0 5) 0 = (tx1 (tkK T n) (tkV T n)).2.2.length ∧ M' (51 + 3 * M 0 5) 1 = (tx2 (tkK T n) (tkV T n)).2.2.length ∧ M' (51 + 3 * M 0 5) 2 = (tx3 (tkK T n) (tkV T n)).2.2.length ∧
    ∀ c, c ≠ 0 → c ≠ 27 → c ≠ 29 → c ≠ 30 → c ≠ 31 → c ≠ 49 + 3 * M 0 5 → c ≠ 50 + 3 * M 0 5 → c ≠ 51 + 3 * M 0 5 → M' c = M c)
theorem tx3_len {K V : Nat → Int} (hk : tkOk K V) (h : txOk K V) : (tx3 K V).2.2.length ≤ 160 := by
  obtain ⟨h1, h2, h3, -⟩ := h
  have a := pPt_ext hk (pR_mk h1)
  have b := pPt_ext hk (pR_mk h2)
  have c := pPt_ext hk (pR_mk h3)
  have l1 : (tx1 K V).2.2.length ≤ (tx1 K V).2.1 := a.2.2.len (by show 0 ≤ _; omega)
  have l2 : (tx2 K V).2.2.length ≤ (tx2 K V).2.1 := b.2.2.len (by omega)
  have l3 : (tx3 K V).2.2.length ≤ (tx3 K V).2.1 := c.2.2.len (by omega)
  have l4 : (tx3 K V).2.1 ≤ 160 := c.2.1
  omega
theorem c_text {S : XS} {T : Int → Int} {n : Int} {M N : YM} (ht : tpOk T n) (h8 : M 28 = T) (h1 : M 27 1 = n) (h5 : 0 ≤ M 0 5 ∧ M 0 5 ≤ 6) : rm S 46 55 [yr 0] M N (fun r M' N' => ∃ v : Int, some (yi v) = r ∧ ctP T n M v M' ∧ N = N') := by
  refine ⟨xe_55, m_55, Nat.le_of_ble_eq_true rfl, ?_⟩
  refine r_run 3 (pc' := 6) (ls' := [some (yr 0)]) (st' := [yi 6, yi (M 0 5)]) (M' := M) (N' := N) rfl ?_
  refine r_icmp_lt (pc := 6) f_55_6 (by omega) (by omega) (fun h6 => ?_) (fun h6 => ?_)
  · refine r_run 2 (pc' := 16) (ls' := [some (yr 0)]) (st' := [yr 27]) (M' := M) (N' := N) rfl ?_
    refine r_virtual (mj := 6) (b := 27) (as := []) (rest := []) f_55_16 (by decide) rfl m_6 (by decide) (by decide) (by decide) rfl rfl (Nat.le_of_ble_eq_true rfl) (by omega) (c_read ht h8 h1) ?_
    rintro _ M2 _ ⟨v2, rfl, hv2, a2, z2, f2, rfl⟩
    have w2 : v2 = 0 ∨ v2 = 1 := by rcases hv2 with h | h; exact Or.inr h.1; exact Or.inl h.1
    have k2 := f2 0 (by decide) (by decide) (by decide) (by decide)
    have tbi := tb_in (T := T) ht.1.1 (txAt (tkK T n) (tkV T n))
    have pzi := pz_in (T := T) ht.1.1 (txAt (tkK T n) (tkV T n))
    have n160 := ht.1.2
    refine r_if_ne (pc := 19) f_55_19 (by omega) (fun h19 => ?_) (fun h19 => ?_)
    · refine r_run 4 (pc' := 41) (ls' := [some (yr 0)]) (st' := [yi (M2 0 5), yr 26]) (M' := M2) (N' := N) rfl ?_
      refine r_aald (r := 49 + 3 * M2 0 5) (kd := 105) (n := 6) f_55_41 (by decide) (by decide) (by decide) (by decide) (by rw [k2]; omega) (rf_text (by rw [k2]; omega)) ?_
      refine r_run 3 (pc' := 49) (ls' := [some (yr 0)]) (st' := [yr 29, yr (49 + 3 * M2 0 5)]) (M' := M2) (N' := N) rfl ?_
      refine r_virtual (mj := 45) (b := 49 + 3 * M2 0 5) (as := [yr 29]) (rest := []) f_55_49 (by decide) rfl m_45 (by decide) (by rw [k2]; omega) (by rw [(yk_text (by rw [k2]; omega))]; rfl) rfl rfl (Nat.le_of_ble_eq_true rfl) (by omega) (c_txb (t := M2 0 5) (by rw [k2]; omega)) ?_
      rintro _ M3 _ ⟨rfl, ⟨e1, e2, e3, e4⟩, rfl⟩
      have k3 := e4 0 (by rw [k2]; omega) (by rw [k2]; omega) (by rw [k2]; omega)
      refine r_run 10 (pc' := 68) (ls' := [some (yr 0)]) (st' := [yi (((M3 0 5) + 1) - 1)]) (M' := (yu M3 0 5 ((M3 0 5) + 1))) (N' := N) rfl ?_
      refine r_iret m_55 rfl f_55_68 ?_
      have hdf : dfP (tkK T n) (tkV T n) M2 := by
        rcases hv2 with h | h
        · exact h.2
        · exfalso; omega
      obtain ⟨hok, d1, d2, d3, d4, d5⟩ := hdf
      have tl := tx3_len (tk_ok ht) hok
      rw [k2] at e1 e2 e3 e4
      refine ⟨_, rfl, Or.inr (Or.inr ⟨by omega, hok, by rw [k3, k2]; omega, by rw [yu_rn (by decide), e4 27 (by omega) (by omega) (by omega)]; exact z2, by rw [yu_at, k3, k2], fun k hk => by rw [yu_ne (Or.inr hk), k3, k2], ?_, ?_, ?_, ?_, ?_, fun c h0 h1 h2 h3 h4 h5 h6 h7 => by rw [yu_rn h0, e4 c h5 h6 h7, f2 c h1 h2 h3 h4]⟩), rfl⟩
      · rw [yu_ne (Or.inl (by omega)), e1]; exact d5
      · rw [yu_rn (by omega)]
        refine crep_congr (fun k k0 k1 => ?_) d1.2
        rw [List.length_map] at k1
        exact e2 k k0 (by omega)
      · rw [yu_ne (Or.inl (by omega)), e3 0 (by decide) (by decide)]; exact d2
      · rw [yu_ne (Or.inl (by omega)), e3 1 (by decide) (by decide)]; exact d3
      · rw [yu_ne (Or.inl (by omega)), e3 2 (by decide) (by decide)]; exact d4
    · refine r_run 5 (pc' := 32) (ls' := [some (yr 0)]) (st' := [yi ((-100) - (M2 27 3))]) (M' := M2) (N' := N) rfl ?_
      refine r_iret m_55 rfl f_55_32 ?_
      refine ⟨_, rfl, Or.inr (Or.inl ⟨by omega, ?_, by rw [a2], z2, f2⟩), rfl⟩
      rcases hv2 with h | h
      · exfalso; omega
      · exact h.2
  · refine r_run 1 (pc' := 11) (ls' := [some (yr 0)]) (st' := [yi (-4)]) (M' := M) (N' := N) rfl ?_
    refine r_iret m_55 rfl f_55_11 ?_
    exact ⟨_, rfl, Or.inl ⟨by omega, rfl, rfl⟩, rfl⟩
