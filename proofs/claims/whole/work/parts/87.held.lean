/-! the reference's signs held, codes put -/
theorem rk_ge (s : Int) : 0 ≤ rk s := by
  unfold rk
  (repeat' split) <;> decide
def mCore (t : Int) (M : YM) (X : zU) : Prop := M 75 9 = t ∧ M 75 27 = X.1.length ∧ crep (M 87) 0 X.1 ∧ M 75 28 = X.2.1 ∧ M 75 29 = X.2.2.length ∧ crep (M 79) (200 * t) X.2.2
def xIn (i : Nat) (X : zU) : Prop := X.1.length + X.2.2.length ≤ i ∧ (X.1.length : Int) - i ≤ X.2.1 ∧ X.2.1 ≤ 5 ∧ ∀ s ∈ X.1, 0 ≤ s ∧ s ≤ 19
def frK (t : Int) (M M' : YM) : Prop := (∀ c, c ≠ 75 → c ≠ 79 → c ≠ 87 → M' c = M c) ∧ (∀ k, k < 27 → M' 75 k = M 75 k) ∧ ∀ k, k < 200 * t → M' 79 k = M 79 k
theorem frK.refl {t : Int} {M : YM} : frK t M M := ⟨fun _ _ _ _ => rfl, fun _ _ => rfl, fun _ _ => rfl⟩
theorem frK.trans {t : Int} {A B C : YM} (h : frK t A B) (g : frK t B C) : frK t A C := ⟨fun c h1 h2 h3 => (g.1 c h1 h2 h3).trans (h.1 c h1 h2 h3), fun k hk => (g.2.1 k hk).trans (h.2.1 k hk), fun k hk => (g.2.2 k hk).trans (h.2.2 k hk)⟩
theorem uw_in {l : Int} {i : Nat} {H : List Int} : ∀ {o : Int} {c : List Int}, xIn i (H, o, c) → xIn i (uw l H o c) := by
  induction H with
  | nil => intro o c h; exact h
  | cons s H ih =>
    intro o c h
    by_cases g : l ≤ rk s
    · rw [uw_push g]
      obtain ⟨h1, h2, h3, h4⟩ := h
      have e1 : ((s :: H).length : Nat) = H.length + 1 := List.length_cons
      have e2 : ((s :: c).length : Nat) = c.length + 1 := List.length_cons
      have h1 : (s :: H).length + c.length ≤ i := h1
      have h2 : ((s :: H).length : Int) - i ≤ o := h2
      have h3 : o ≤ 5 := h3
      refine ih ⟨?_, ?_, ?_, fun x hx => h4 x (List.mem_cons_of_mem _ hx)⟩
      · show H.length + (s :: c).length ≤ i; omega
      · show (H.length : Int) - i ≤ if s = 13 ∨ s = 19 then o - 1 else o
        split <;> omega
      · show (if s = 13 ∨ s = 19 then o - 1 else o) ≤ 5
        split <;> omega
    · rw [show uw l (s :: H) o c = (s :: H, o, c) from if_neg g]; exact h
theorem m_rank {S : XS} {M N : YM} {s : Int} (hs : 0 ≤ s ∧ s ≤ 19) : rm S 0 124 [yi s] M N (fun r M' N' => ∃ v : Int, some (yi v) = r ∧ (v = rk s) ∧ M = M' ∧ N = N') := by
  refine ⟨xe_124, m_124, Nat.le_of_ble_eq_true rfl, ?_⟩
  refine r_run 1 (pc' := 1) (ls' := [some (yi s)]) (st' := [yi s]) (M' := M) (N' := N) rfl ?_
  refine r_if_ne (pc := 1) f_124_1 (by omega) (fun h1 => ?_) (fun h1 => ?_)
  · refine r_run 2 (pc' := 11) (ls' := [some (yi s)]) (st' := [yi 11, yi s]) (M' := M) (N' := N) rfl ?_
    refine r_icmp_ne (pc := 11) f_124_11 (by omega) (by omega) (fun h11 => ?_) (fun h11 => ?_)
    · refine r_run 2 (pc' := 21) (ls' := [some (yi s)]) (st' := [yi 12, yi s]) (M' := M) (N' := N) rfl ?_
      refine r_icmp_ne (pc := 21) f_124_21 (by omega) (by omega) (fun h21 => ?_) (fun h21 => ?_)
      · refine r_run 2 (pc' := 31) (ls' := [some (yi s)]) (st' := [yi 13, yi s]) (M' := M) (N' := N) rfl ?_
        refine r_icmp_ne (pc := 31) f_124_31 (by omega) (by omega) (fun h31 => ?_) (fun h31 => ?_)
        · refine r_run 2 (pc' := 41) (ls' := [some (yi s)]) (st' := [yi 15, yi s]) (M' := M) (N' := N) rfl ?_
          refine r_icmp_gt (pc := 41) f_124_41 (by omega) (by omega) (fun h41 => ?_) (fun h41 => ?_)
          · refine r_run 2 (pc' := 51) (ls' := [some (yi s)]) (st' := [yi 17, yi s]) (M' := M) (N' := N) rfl ?_
            refine r_icmp_gt (pc := 51) f_124_51 (by omega) (by omega) (fun h51 => ?_) (fun h51 => ?_)
            · refine r_run 2 (pc' := 61) (ls' := [some (yi s)]) (st' := [yi 18, yi s]) (M' := M) (N' := N) rfl ?_
              refine r_icmp_ne (pc := 61) f_124_61 (by omega) (by omega) (fun h61 => ?_) (fun h61 => ?_)
              · refine r_run 1 (pc' := 71) (ls' := [some (yi s)]) (st' := [yi 7]) (M' := M) (N' := N) rfl ?_
                refine r_iret m_124 rfl f_124_71 ?_
                exact ⟨_, rfl, by unfold rk; rw [if_neg (by omega), if_neg (by omega), if_neg (by omega), if_neg (by omega), if_neg (by omega), if_neg (by omega), if_neg (by omega)], rfl, rfl⟩
              · refine r_run 2 (pc' := 71) (ls' := [some (yi s)]) (st' := [yi 6]) (M' := M) (N' := N) rfl ?_
                refine r_iret m_124 rfl f_124_71 ?_
                exact ⟨_, rfl, by unfold rk; rw [if_neg (by omega), if_neg (by omega), if_neg (by omega), if_neg (by omega), if_neg (by omega), if_neg (by omega), if_pos (by omega)], rfl, rfl⟩
            · refine r_run 2 (pc' := 71) (ls' := [some (yi s)]) (st' := [yi 5]) (M' := M) (N' := N) rfl ?_
              refine r_iret m_124 rfl f_124_71 ?_
              exact ⟨_, rfl, by unfold rk; rw [if_neg (by omega), if_neg (by omega), if_neg (by omega), if_neg (by omega), if_neg (by omega), if_pos (by omega)], rfl, rfl⟩
          · refine r_run 2 (pc' := 71) (ls' := [some (yi s)]) (st' := [yi 4]) (M' := M) (N' := N) rfl ?_
            refine r_iret m_124 rfl f_124_71 ?_
            exact ⟨_, rfl, by unfold rk; rw [if_neg (by omega), if_neg (by omega), if_neg (by omega), if_neg (by omega), if_pos (by omega)], rfl, rfl⟩
        · refine r_run 2 (pc' := 71) (ls' := [some (yi s)]) (st' := [yi 3]) (M' := M) (N' := N) rfl ?_
          refine r_iret m_124 rfl f_124_71 ?_
          exact ⟨_, rfl, by unfold rk; rw [if_neg (by omega), if_neg (by omega), if_neg (by omega), if_pos (by omega)], rfl, rfl⟩
      · refine r_run 2 (pc' := 71) (ls' := [some (yi s)]) (st' := [yi 2]) (M' := M) (N' := N) rfl ?_
        refine r_iret m_124 rfl f_124_71 ?_
        exact ⟨_, rfl, by unfold rk; rw [if_neg (by omega), if_neg (by omega), if_pos (by omega)], rfl, rfl⟩
    · refine r_run 2 (pc' := 71) (ls' := [some (yi s)]) (st' := [yi 1]) (M' := M) (N' := N) rfl ?_
      refine r_iret m_124 rfl f_124_71 ?_
      exact ⟨_, rfl, by unfold rk; rw [if_neg (by omega), if_pos (by omega)], rfl, rfl⟩
  · refine r_run 2 (pc' := 71) (ls' := [some (yi s)]) (st' := [yi 0]) (M' := M) (N' := N) rfl ?_
    refine r_iret m_124 rfl f_124_71 ?_
    exact ⟨_, rfl, by unfold rk; rw [if_pos (by omega)], rfl, rfl⟩
theorem m_puts {S : XS} {M N : YM} {x : Int} (ht : 0 ≤ M 75 9 ∧ M 75 9 ≤ 5) (ho : 0 ≤ M 75 29 ∧ M 75 29 < 200) : rm S 0 125 [yr 75, yi x] M N (fun r M' N' => none = r ∧ (yu (yu M 79 (200 * M 75 9 + M 75 29) x) 75 29 (M 75 29 + 1)) = M' ∧ N = N') := by
  refine ⟨xe_125, m_125, Nat.le_of_ble_eq_true rfl, ?_⟩
  refine r_run 10 (pc' := 18) (ls' := [some (yr 75), some (yi x)]) (st' := [yi x, yi ((200 * (M 75 9)) + (M 75 29)), yr 79]) (M' := M) (N' := N) rfl ?_
  refine r_iast (n := 1200) f_125_18 (by decide) (by decide) (by decide) (by omega) ?_
  refine r_run 6 (pc' := 29) (ls' := [some (yr 75), some (yi x)]) (st' := []) (M' := (yu (yu M 79 ((200 * (M 75 9)) + (M 75 29)) x) 75 29 ((M 75 29) + 1))) (N' := N) rfl ?_
  refine r_vret m_125 rfl f_125_29 ?_
  exact ⟨rfl, rfl, rfl⟩
theorem m_holds {S : XS} {M N : YM} {x : Int} (ho : 0 ≤ M 75 27 ∧ M 75 27 < 200) : rm S 0 127 [yr 75, yi x] M N (fun r M' N' => none = r ∧ (yu (yu M 87 (M 75 27) x) 75 27 (M 75 27 + 1)) = M' ∧ N = N') := by
  refine ⟨xe_127, m_127, Nat.le_of_ble_eq_true rfl, ?_⟩
  refine r_run 5 (pc' := 9) (ls' := [some (yr 75), some (yi x)]) (st' := [yi x, yi (M 75 27), yr 87]) (M' := M) (N' := N) rfl ?_
  refine r_iast (n := 200) f_127_9 (by decide) (by decide) (by decide) (by omega) ?_
  refine r_run 6 (pc' := 20) (ls' := [some (yr 75), some (yi x)]) (st' := []) (M' := (yu (yu M 87 (M 75 27) x) 75 27 ((M 75 27) + 1))) (N' := N) rfl ?_
  refine r_vret m_127 rfl f_127_20 ?_
  exact ⟨rfl, rfl, rfl⟩
theorem m_putsX {S : XS} {M N : YM} {x t : Int} {H c : List Int} {o : Int} (ht : 0 ≤ t ∧ t ≤ 5) (hc : mCore t M (H, o, c)) (hl : c.length < 200) : rm S 0 125 [yr 75, yi x] M N (fun r M' N' => none = r ∧ (mCore t M' (H, o, x :: c) ∧ frK t M M') ∧ N = N') := by
  obtain ⟨h1, h2, h3, h4, h5, h6⟩ := hc
  have h5 : M 75 29 = (c.length : Int) := h5
  refine rm_post (m_puts (by omega) (by omega)) ?_
  rintro _ _ _ ⟨rfl, rfl, rfl⟩
  refine ⟨rfl, ⟨⟨by rw [yu_ne (Or.inr (by decide)), yu_ne (Or.inl (by decide))]; exact h1, by rw [yu_ne (Or.inr (by decide)), yu_ne (Or.inl (by decide))]; exact h2, by rw [yu_rn (by decide), yu_rn (by decide)]; exact h3, by rw [yu_ne (Or.inr (by decide)), yu_ne (Or.inl (by decide))]; exact h4, by rw [yu_at, h5]; show _ = ((x :: c).length : Int); rw [List.length_cons]; rfl, ?_⟩, ⟨fun c g1 g2 g3 => by rw [yu_rn g1, yu_rn g2], fun k hk => by rw [yu_ne (Or.inr (by omega)), yu_ne (Or.inl (by decide))], fun k hk => by rw [yu_ne (Or.inl (by decide)), yu_ne (Or.inr (by omega))]⟩⟩, rfl⟩
  show yu (yu M 79 (200 * M 75 9 + M 75 29) x) 75 29 (M 75 29 + 1) 79 (200 * t + (c.length : Int)) = x ∧ crep (yu (yu M 79 (200 * M 75 9 + M 75 29) x) 75 29 (M 75 29 + 1) 79) (200 * t) c
  rw [yu_rn (show (79 : Int) ≠ 75 by decide), h1, h5]
  exact ⟨yu_at, crep_congr (fun k k0 k1 => yu_ne (Or.inr (by omega))) h6⟩
theorem m_holdsX {S : XS} {M N : YM} {x t : Int} {H c : List Int} {o : Int} (hc : mCore t M (H, o, c)) (hl : H.length < 200) : rm S 0 127 [yr 75, yi x] M N (fun r M' N' => none = r ∧ (mCore t M' (x :: H, o, c) ∧ frK t M M' ) ∧ N = N') := by
  obtain ⟨h1, h2, h3, h4, h5, h6⟩ := hc
  have h2 : M 75 27 = (H.length : Int) := h2
  refine rm_post (m_holds (by omega)) ?_
  rintro _ _ _ ⟨rfl, rfl, rfl⟩
  refine ⟨rfl, ⟨⟨by rw [yu_ne (Or.inr (by decide)), yu_ne (Or.inl (by decide))]; exact h1, by rw [yu_at, h2]; show _ = ((x :: H).length : Int); rw [List.length_cons]; rfl, ?_, by rw [yu_ne (Or.inr (by decide)), yu_ne (Or.inl (by decide))]; exact h4, by rw [yu_ne (Or.inr (by decide)), yu_ne (Or.inl (by decide))]; exact h5, by rw [yu_rn (by decide), yu_rn (by decide)]; exact h6⟩, ⟨fun c g1 g2 g3 => by rw [yu_rn g1, yu_rn g3], fun k hk => by rw [yu_ne (Or.inr (by omega)), yu_ne (Or.inl (by decide))], fun k hk => by rw [yu_rn (by decide), yu_rn (by decide)]⟩⟩, rfl⟩
  show yu (yu M 87 (M 75 27) x) 75 27 (M 75 27 + 1) 87 (0 + (H.length : Int)) = x ∧ crep (yu (yu M 87 (M 75 27) x) 75 27 (M 75 27 + 1) 87) 0 H
  rw [yu_rn (show (87 : Int) ≠ 75 by decide), h2, Int.zero_add]
  exact ⟨yu_at, crep_congr (fun k k0 k1 => yu_ne (Or.inr (by omega))) h3⟩
theorem m_unw_l {S : XS} {d : Nat} {l t : Int} {i : Nat} {N : YM} (hd : 1 ≤ d) (ht : 0 ≤ t ∧ t ≤ 5) (hl : 1 ≤ l ∧ l ≤ 7) (hi : i ≤ 160) {H : List Int} : ∀ {o : Int} {c : List Int} {M : YM} {l2 : Option YV}, mCore t M (H, o, c) → xIn i (H, o, c) → ry S d 126 0 [some (yr 75), some (yi l), l2] [] M N (fun r M' N' => none = r ∧ (mCore t M' (uw l H o c) ∧ frK t M M') ∧ N = N') := by
  induction H with
  | nil =>
    intro o c M l2 hc hin
    have e27 : M 75 27 = 0 := hc.2.1
    refine r_run 2 (pc' := 4) (ls' := [some (yr 75), some (yi l), l2]) (st' := [yi (M 75 27)]) (M' := M) (N' := N) rfl ?_
    refine r_if_le (pc := 4) f_126_4 (by omega) (fun h4 => ?_) (fun h4 => ?_)
    · refine r_vret m_126 rfl f_126_79 ?_
      exact ⟨rfl, ⟨hc, frK.refl⟩, rfl⟩
    · exfalso; omega
  | cons s H ih =>
    intro o c M l2 hc hin
    have e27 : M 75 27 = H.length + 1 := hc.2.1
    have e28 : M 75 28 = o := hc.2.2.2.1
    have hlen : (s :: H).length + c.length ≤ i := hin.1
    have elen : (s :: H).length = H.length + 1 := List.length_cons
    have hs := hin.2.2.2 s (List.mem_cons_self ..)
    have hob : ((s :: H).length : Int) - i ≤ o := hin.2.1
    have ho5 : o ≤ 5 := hin.2.2.1
    have es : M 87 (M 75 27 - 1) = s := by
      have e := hc.2.2.1.1
      rw [e27, show (H.length : Int) + 1 - 1 = 0 + H.length by omega]
      exact e
    have hin3 : xIn i (H, if s = 13 ∨ s = 19 then o - 1 else o, s :: c) := by
      have e2 : ((s :: c).length : Nat) = c.length + 1 := List.length_cons
      refine ⟨?_, ?_, ?_, fun x hx => hin.2.2.2 x (List.mem_cons_of_mem _ hx)⟩
      · show H.length + (s :: c).length ≤ i; omega
      · show (H.length : Int) - i ≤ if s = 13 ∨ s = 19 then o - 1 else o
        split <;> omega
      · show (if s = 13 ∨ s = 19 then o - 1 else o) ≤ 5
        split <;> omega
    refine r_run 2 (pc' := 4) (ls' := [some (yr 75), some (yi l), l2]) (st' := [yi (M 75 27)]) (M' := M) (N' := N) rfl ?_
    refine r_if_le (pc := 4) f_126_4 (by omega) (fun h4 => ?_) (fun h4 => ?_)
    · refine r_vret m_126 rfl f_126_79 ?_
      rw [show uw l (s :: H) o c = (s :: H, o, c) from if_neg (by omega)]
      exact ⟨rfl, ⟨hc, frK.refl⟩, rfl⟩
    · refine r_run 6 (pc' := 17) (ls' := [some (yr 75), some (yi l), l2]) (st' := [yi ((M 75 27) - 1), yr 87]) (M' := M) (N' := N) rfl ?_
      refine r_iald (n := 200) f_126_17 (by decide) (by decide) (by decide) (by omega) ?_
      refine r_static (mj := 124) (as := [yi (M 87 ((M 75 27) - 1))]) (rest := []) f_126_18 (by decide) rfl m_124 rfl rfl rfl (Nat.le_of_ble_eq_true rfl) (by omega) (m_rank (by omega)) ?_
      rintro _ _ _ ⟨vr, rfl, hvr, rfl, rfl⟩
      rw [es] at hvr
      have rb := rk_le s
      have rg := rk_ge s
      refine r_run 1 (pc' := 22) (ls' := [some (yr 75), some (yi l), l2]) (st' := [yi l, yi vr]) (M' := M) (N' := N) rfl ?_
      refine r_icmp_lt (pc := 22) f_126_22 (by omega) (by omega) (fun h22 => ?_) (fun h22 => ?_)
      · refine r_vret m_126 rfl f_126_79 ?_
        rw [show uw l (s :: H) o c = (s :: H, o, c) from if_neg (by omega)]
        exact ⟨rfl, ⟨hc, frK.refl⟩, rfl⟩
      · refine r_run 10 (pc' := 43) (ls' := [some (yr 75), some (yi l), l2]) (st' := [yi ((M 75 27) - 1), yr 87]) (M' := (yu M 75 27 ((M 75 27) - 1))) (N' := N) rfl ?_
        refine r_iald (n := 200) f_126_43 (by decide) (by decide) (by decide) (by omega) ?_
        refine r_run 6 (pc' := 53) (ls' := [some (yr 75), some (yi l), some (yi (M 87 ((M 75 27) - 1)))]) (st' := [yi 13, yi (M 87 ((M 75 27) - 1)), yi (M 75 28), yr 75]) (M' := (yu M 75 27 ((M 75 27) - 1))) (N' := N) rfl ?_
        refine r_icmp_eq (pc := 53) f_126_53 (by omega) (by omega) (fun h53 => ?_) (fun h53 => ?_)
        · refine r_run 4 (pc' := 71) (ls' := [some (yr 75), some (yi l), some (yi (M 87 ((M 75 27) - 1)))]) (st' := []) (M' := (yu (yu M 75 27 ((M 75 27) - 1)) 75 28 ((M 75 28) - 1))) (N' := N) rfl ?_
          generalize hM2 : (yu (yu M 75 27 ((M 75 27) - 1)) 75 28 ((M 75 28) - 1)) = M2
          have g1 : ∀ c, c ≠ 75 → M2 c = M c := fun c h => by rw [← hM2, yu_rn h, yu_rn h]
          have g2 : ∀ k, k ≠ 27 → k ≠ 28 → M2 75 k = M 75 k := fun k h h' => by rw [← hM2, yu_ne (Or.inr h'), yu_ne (Or.inr h)]
          have ho2 : (if s = 13 ∨ s = 19 then o - 1 else o) = o - 1 := by rw [if_pos (by omega)]
          have hc2 : mCore t M2 (H, if s = 13 ∨ s = 19 then o - 1 else o, c) := ⟨by rw [g2 9 (by decide) (by decide)]; exact hc.1, by rw [← hM2, yu_ne (Or.inr (by decide)), yu_at, e27]; show _ = (H.length : Int); omega, by rw [g1 87 (by decide)]; exact hc.2.2.1.2, by rw [ho2, ← hM2, yu_at, e28], by rw [g2 29 (by decide) (by decide)]; exact hc.2.2.2.2.1, by rw [g1 79 (by decide)]; exact hc.2.2.2.2.2⟩
          have f2 : frK t M M2 := ⟨fun c h1 h2 h3 => g1 c h1, fun k hk => g2 k (by omega) (by omega), fun k hk => by rw [g1 79 (by decide)]⟩
          have es' : M 87 (M 75 27 - 1) = s := es
          rw [es']
          refine r_run 2 (pc' := 73) (ls' := [some (yr 75), some (yi l), some (yi s)]) (st' := [yi s, yr 75]) (M' := M2) (N' := N) rfl ?_
          refine r_virtual (mj := 125) (b := 75) (as := [yi s]) (rest := []) f_126_73 (by decide) rfl m_125 (by decide) (by decide) (by decide) rfl rfl (Nat.le_of_ble_eq_true rfl) (by omega) (m_putsX ht hc2 (by omega)) ?_
          rintro _ M3 _ ⟨rfl, ⟨hc3, f3⟩, rfl⟩
          refine r_run 1 (pc' := 0) (ls' := [some (yr 75), some (yi l), some (yi s)]) (st' := []) (M' := M3) (N' := N) rfl ?_
          refine r_post (ih hc3 hin3 (l2 := some (yi s))) ?_
          rintro _ M' _ ⟨rfl, ⟨k1, k2⟩, rfl⟩
          rw [uw_push (by omega)]
          exact ⟨rfl, ⟨k1, (f2.trans f3).trans k2⟩, rfl⟩
        · refine r_run 2 (pc' := 59) (ls' := [some (yr 75), some (yi l), some (yi (M 87 ((M 75 27) - 1)))]) (st' := [yi 19, yi (M 87 ((M 75 27) - 1)), yi (M 75 28), yr 75]) (M' := (yu M 75 27 ((M 75 27) - 1))) (N' := N) rfl ?_
          refine r_icmp_ne (pc := 59) f_126_59 (by omega) (by omega) (fun h59 => ?_) (fun h59 => ?_)
          · refine r_run 3 (pc' := 71) (ls' := [some (yr 75), some (yi l), some (yi (M 87 ((M 75 27) - 1)))]) (st' := []) (M' := (yu (yu M 75 27 ((M 75 27) - 1)) 75 28 ((M 75 28) - 0))) (N' := N) rfl ?_
            generalize hM2 : (yu (yu M 75 27 ((M 75 27) - 1)) 75 28 ((M 75 28) - 0)) = M2
            have g1 : ∀ c, c ≠ 75 → M2 c = M c := fun c h => by rw [← hM2, yu_rn h, yu_rn h]
            have g2 : ∀ k, k ≠ 27 → k ≠ 28 → M2 75 k = M 75 k := fun k h h' => by rw [← hM2, yu_ne (Or.inr h'), yu_ne (Or.inr h)]
            have ho2 : (if s = 13 ∨ s = 19 then o - 1 else o) = o := by rw [if_neg (by omega)]
            have hc2 : mCore t M2 (H, if s = 13 ∨ s = 19 then o - 1 else o, c) := ⟨by rw [g2 9 (by decide) (by decide)]; exact hc.1, by rw [← hM2, yu_ne (Or.inr (by decide)), yu_at, e27]; show _ = (H.length : Int); omega, by rw [g1 87 (by decide)]; exact hc.2.2.1.2, by rw [ho2, ← hM2, yu_at, e28]; show o - 0 = o; omega, by rw [g2 29 (by decide) (by decide)]; exact hc.2.2.2.2.1, by rw [g1 79 (by decide)]; exact hc.2.2.2.2.2⟩
            have f2 : frK t M M2 := ⟨fun c h1 h2 h3 => g1 c h1, fun k hk => g2 k (by omega) (by omega), fun k hk => by rw [g1 79 (by decide)]⟩
            have es' : M 87 (M 75 27 - 1) = s := es
            rw [es']
            refine r_run 2 (pc' := 73) (ls' := [some (yr 75), some (yi l), some (yi s)]) (st' := [yi s, yr 75]) (M' := M2) (N' := N) rfl ?_
            refine r_virtual (mj := 125) (b := 75) (as := [yi s]) (rest := []) f_126_73 (by decide) rfl m_125 (by decide) (by decide) (by decide) rfl rfl (Nat.le_of_ble_eq_true rfl) (by omega) (m_putsX ht hc2 (by omega)) ?_
            rintro _ M3 _ ⟨rfl, ⟨hc3, f3⟩, rfl⟩
            refine r_run 1 (pc' := 0) (ls' := [some (yr 75), some (yi l), some (yi s)]) (st' := []) (M' := M3) (N' := N) rfl ?_
            refine r_post (ih hc3 hin3 (l2 := some (yi s))) ?_
            rintro _ M' _ ⟨rfl, ⟨k1, k2⟩, rfl⟩
            rw [uw_push (by omega)]
            exact ⟨rfl, ⟨k1, (f2.trans f3).trans k2⟩, rfl⟩
          · refine r_run 4 (pc' := 71) (ls' := [some (yr 75), some (yi l), some (yi (M 87 ((M 75 27) - 1)))]) (st' := []) (M' := (yu (yu M 75 27 ((M 75 27) - 1)) 75 28 ((M 75 28) - 1))) (N' := N) rfl ?_
            generalize hM2 : (yu (yu M 75 27 ((M 75 27) - 1)) 75 28 ((M 75 28) - 1)) = M2
            have g1 : ∀ c, c ≠ 75 → M2 c = M c := fun c h => by rw [← hM2, yu_rn h, yu_rn h]
            have g2 : ∀ k, k ≠ 27 → k ≠ 28 → M2 75 k = M 75 k := fun k h h' => by rw [← hM2, yu_ne (Or.inr h'), yu_ne (Or.inr h)]
            have ho2 : (if s = 13 ∨ s = 19 then o - 1 else o) = o - 1 := by rw [if_pos (by omega)]
            have hc2 : mCore t M2 (H, if s = 13 ∨ s = 19 then o - 1 else o, c) := ⟨by rw [g2 9 (by decide) (by decide)]; exact hc.1, by rw [← hM2, yu_ne (Or.inr (by decide)), yu_at, e27]; show _ = (H.length : Int); omega, by rw [g1 87 (by decide)]; exact hc.2.2.1.2, by rw [ho2, ← hM2, yu_at, e28], by rw [g2 29 (by decide) (by decide)]; exact hc.2.2.2.2.1, by rw [g1 79 (by decide)]; exact hc.2.2.2.2.2⟩
            have f2 : frK t M M2 := ⟨fun c h1 h2 h3 => g1 c h1, fun k hk => g2 k (by omega) (by omega), fun k hk => by rw [g1 79 (by decide)]⟩
            have es' : M 87 (M 75 27 - 1) = s := es
            rw [es']
            refine r_run 2 (pc' := 73) (ls' := [some (yr 75), some (yi l), some (yi s)]) (st' := [yi s, yr 75]) (M' := M2) (N' := N) rfl ?_
            refine r_virtual (mj := 125) (b := 75) (as := [yi s]) (rest := []) f_126_73 (by decide) rfl m_125 (by decide) (by decide) (by decide) rfl rfl (Nat.le_of_ble_eq_true rfl) (by omega) (m_putsX ht hc2 (by omega)) ?_
            rintro _ M3 _ ⟨rfl, ⟨hc3, f3⟩, rfl⟩
            refine r_run 1 (pc' := 0) (ls' := [some (yr 75), some (yi l), some (yi s)]) (st' := []) (M' := M3) (N' := N) rfl ?_
            refine r_post (ih hc3 hin3 (l2 := some (yi s))) ?_
            rintro _ M' _ ⟨rfl, ⟨k1, k2⟩, rfl⟩
            rw [uw_push (by omega)]
            exact ⟨rfl, ⟨k1, (f2.trans f3).trans k2⟩, rfl⟩
theorem m_unwX {S : XS} {M N : YM} {l t : Int} {i : Nat} {X : zU} (ht : 0 ≤ t ∧ t ≤ 5) (hl : 1 ≤ l ∧ l ≤ 7) (hi : i ≤ 160) (hc : mCore t M X) (hin : xIn i X) : rm S 1 126 [yr 75, yi l] M N (fun r M' N' => none = r ∧ (mCore t M' (ux l X) ∧ xIn i (ux l X) ∧ frK t M M') ∧ N = N') := by
  refine ⟨xe_126, m_126, Nat.le_of_ble_eq_true rfl, ?_⟩
  refine r_post (m_unw_l (by decide) ht hl hi (H := X.1) (o := X.2.1) (c := X.2.2) hc hin) ?_
  rintro _ M' _ ⟨rfl, ⟨k1, k2⟩, rfl⟩
  exact ⟨rfl, ⟨k1, uw_in hin, k2⟩, rfl⟩
