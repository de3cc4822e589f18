/-! the reference reads an E -/
theorem xIn.val {i : Nat} {H : List Int} {o : Int} {c : List Int} {x : Int} (h : xIn i (H, o, c)) : xIn (i + 1) (H, o, x :: c) := by
  obtain ⟨h1, h2, h3, h4⟩ := h
  have h1 : H.length + c.length ≤ i := h1
  have h2 : (H.length : Int) - i ≤ o := h2
  have e : (x :: c).length = c.length + 1 := List.length_cons
  exact ⟨by show H.length + (x :: c).length ≤ i + 1; omega, by show (H.length : Int) - ((i + 1 : Nat) : Int) ≤ o; omega, h3, h4⟩
theorem xIn.hold {i : Nat} {H : List Int} {o : Int} {c : List Int} {s : Int} (h : xIn i (H, o, c)) (hs : 0 ≤ s ∧ s ≤ 19) (ho : o ≠ 5) : xIn (i + 1) (s :: H, o + 1, c) := by
  obtain ⟨h1, h2, h3, h4⟩ := h
  have h1 : H.length + c.length ≤ i := h1
  have h2 : (H.length : Int) - i ≤ o := h2
  have h3 : o ≤ 5 := h3
  have e : (s :: H).length = H.length + 1 := List.length_cons
  exact ⟨by show (s :: H).length + c.length ≤ i + 1; omega, by show ((s :: H).length : Int) - ((i + 1 : Nat) : Int) ≤ o + 1; omega, by show o + 1 ≤ 5; omega, fun x hx => by
    rcases List.mem_cons.mp hx with rfl | hx
    · exact hs
    · exact h4 x hx⟩
theorem xIn.sign {i : Nat} {X : zU} {s : Int} (h : xIn i X) (hs : 0 ≤ s ∧ s ≤ 19) : xIn (i + 1) (s :: X.1, X.2.1, X.2.2) := by
  obtain ⟨h1, h2, h3, h4⟩ := h
  have e : (s :: X.1).length = X.1.length + 1 := List.length_cons
  exact ⟨by show (s :: X.1).length + X.2.2.length ≤ i + 1; omega, by show ((s :: X.1).length : Int) - ((i + 1 : Nat) : Int) ≤ X.2.1; omega, h3, fun x hx => by
    rcases List.mem_cons.mp hx with rfl | hx
    · exact hs
    · exact h4 x hx⟩
theorem xIn.shut {i : Nat} {H : List Int} {o : Int} {c : List Int} {s : Int} (h : xIn i (s :: H, o, c)) : xIn (i + 1) (H, o - 1, c) := by
  obtain ⟨h1, h2, h3, h4⟩ := h
  have h1 : (s :: H).length + c.length ≤ i := h1
  have h2 : ((s :: H).length : Int) - i ≤ o := h2
  have h3 : o ≤ 5 := h3
  have e : (s :: H).length = H.length + 1 := List.length_cons
  exact ⟨by show H.length + c.length ≤ i + 1; omega, by show (H.length : Int) - ((i + 1 : Nat) : Int) ≤ o - 1; omega, by show o - 1 ≤ 5; omega, fun x hx => h4 x (List.mem_cons_of_mem _ hx)⟩
theorem core_top {t : Int} {M : YM} {X : zU} {i : Nat} (h : mCore t M X) (hi : xIn i X) (g : 0 < M 75 27) : ∃ s H, X.1 = s :: H ∧ M 87 (M 75 27 - 1) = s ∧ 0 ≤ s ∧ s ≤ 19 := by
  obtain ⟨H, o, c⟩ := X
  cases H with
  | nil => have : M 75 27 = 0 := h.2.1; omega
  | cons s H =>
    have e27 : M 75 27 = H.length + 1 := h.2.1
    have e : M 87 (0 + (H.length : Int)) = s := h.2.2.1.1
    have hs := hi.2.2.2 s (List.mem_cons_self ..)
    exact ⟨s, H, rfl, by rw [e27, show (H.length : Int) + 1 - 1 = 0 + H.length by omega]; exact e, hs⟩
theorem core_nil {t : Int} {M : YM} {X : zU} (h : mCore t M X) (g : M 75 27 = 0) : X.1 = [] := by
  have := h.2.1
  exact List.eq_nil_of_length_eq_zero (by omega)
theorem m_opensOneX {S : XS} {M N : YM} {s t : Int} {i : Nat} {H c : List Int} {o : Int} (hc : mCore t M (H, o, c)) (hin : xIn i (H, o, c)) (hi : i < 160) : rm S 1 128 [yr 75, yi s] M N (fun r M' N' => ∃ v : Int, some (yi v) = r ∧ ((v = 0 ∧ o = 5 ∧ M = M') ∨ (v = 1 ∧ o ≠ 5 ∧ mCore t M' (s :: H, o + 1, c) ∧ frK t M M')) ∧ N = N') := by
  refine ⟨xe_128, m_128, Nat.le_of_ble_eq_true rfl, ?_⟩
  have h28 : M 75 28 = o := hc.2.2.2.1
  have hl1 : H.length + c.length ≤ i := hin.1
  have hl2 : (H.length : Int) - i ≤ o := hin.2.1
  have hl3 : o ≤ 5 := hin.2.2.1
  refine r_run 3 (pc' := 5) (ls' := [some (yr 75), some (yi s)]) (st' := [yi 5, yi (M 75 28)]) (M' := M) (N' := N) rfl ?_
  refine r_icmp_ne (pc := 5) f_128_5 (by omega) (by omega) (fun h5 => ?_) (fun h5 => ?_)
  · refine r_run 6 (pc' := 20) (ls' := [some (yr 75), some (yi s)]) (st' := []) (M' := (yu M 75 28 ((M 75 28) + 1))) (N' := N) rfl ?_
    have hc2 : mCore t (yu M 75 28 (M 75 28 + 1)) (H, o + 1, c) := ⟨by rw [yu_ne (Or.inr (by decide))]; exact hc.1, by rw [yu_ne (Or.inr (by decide))]; exact hc.2.1, by rw [yu_rn (by decide)]; exact hc.2.2.1, by rw [yu_at, h28], by rw [yu_ne (Or.inr (by decide))]; exact hc.2.2.2.2.1, by rw [yu_rn (by decide)]; exact hc.2.2.2.2.2⟩
    have f2 : frK t M (yu M 75 28 (M 75 28 + 1)) := ⟨fun c g1 g2 g3 => yu_rn g1, fun k hk => yu_ne (Or.inr (by omega)), fun k hk => by rw [yu_rn (by decide)]⟩
    refine r_run 2 (pc' := 22) (ls' := [some (yr 75), some (yi s)]) (st' := [yi s, yr 75]) (M' := (yu M 75 28 ((M 75 28) + 1))) (N' := N) rfl ?_
    refine r_virtual (mj := 127) (b := 75) (as := [yi s]) (rest := []) f_128_22 (by decide) rfl m_127 (by decide) (by decide) (by decide) rfl rfl (Nat.le_of_ble_eq_true rfl) (by omega) (m_holdsX hc2 (by omega)) ?_
    rintro _ M3 _ ⟨rfl, ⟨hc3, f3⟩, rfl⟩
    refine r_run 1 (pc' := 26) (ls' := [some (yr 75), some (yi s)]) (st' := [yi 1]) (M' := M3) (N' := N) rfl ?_
    refine r_zret m_128 rfl f_128_26 (by omega) ?_
    exact ⟨1, rfl, Or.inr ⟨rfl, by omega, hc3, f2.trans f3⟩, rfl⟩
  · refine r_run 1 (pc' := 9) (ls' := [some (yr 75), some (yi s)]) (st' := [yi 0]) (M' := M) (N' := N) rfl ?_
    refine r_zret m_128 rfl f_128_9 (by omega) ?_
    exact ⟨0, rfl, Or.inl ⟨rfl, by omega, rfl⟩, rfl⟩
theorem m_betweenX {S : XS} {M N : YM} {s t : Int} {i : Nat} {X : zU} (ht : 0 ≤ t ∧ t ≤ 5) (hs : 11 ≤ s ∧ s ≤ 19) (hc : mCore t M X) (hin : xIn i X) (hi : i < 160) {l : Int} (hl : l = (if rk s = 4 then 5 else rk s)) : rm S 2 129 [yr 75, yi s] M N (fun r M' N' => ∃ v : Int, some (yi v) = r ∧ ((v = 0 ∧ rk s = 4 ∧ tr (ux l X).1 = 4 ∧ frK t M M') ∨ (v = 1 ∧ ¬ (rk s = 4 ∧ tr (ux l X).1 = 4) ∧ mCore t M' (s :: (ux l X).1, (ux l X).2.1, (ux l X).2.2) ∧ frK t M M')) ∧ N = N') := by
  refine ⟨xe_129, m_129, Nat.le_of_ble_eq_true rfl, ?_⟩
  have rb := rk_le s
  have rg := rk_ge s
  have rp : 1 ≤ rk s := by
    unfold rk
    rw [if_neg (by omega)]
    (repeat' split) <;> decide
  have hl17 : 1 ≤ l ∧ l ≤ 7 := by rw [hl]; split <;> omega
  refine r_run 2 (pc' := 2) (ls' := [some (yr 75), some (yi s)]) (st' := [yi s, yr 75]) (M' := M) (N' := N) rfl ?_
  refine r_static (mj := 124) (as := [yi s]) (rest := [yr 75]) f_129_2 (by decide) rfl m_124 rfl rfl rfl (Nat.le_of_ble_eq_true rfl) (by omega) (m_rank (by omega)) ?_
  rintro _ _ _ ⟨v2, rfl, hv2, rfl, rfl⟩
  refine r_run 1 (pc' := 6) (ls' := [some (yr 75), some (yi s)]) (st' := [yi 4, yi v2, yr 75]) (M' := M) (N' := N) rfl ?_
  refine r_icmp_ne (pc := 6) f_129_6 (by omega) (by omega) (fun h6 => ?_) (fun h6 => ?_)
  · refine r_run 1 (pc' := 14) (ls' := [some (yr 75), some (yi s)]) (st' := [yi s, yr 75]) (M' := M) (N' := N) rfl ?_
    refine r_static (mj := 124) (as := [yi s]) (rest := [yr 75]) f_129_14 (by decide) rfl m_124 rfl rfl rfl (Nat.le_of_ble_eq_true rfl) (by omega) (m_rank (by omega)) ?_
    rintro _ _ _ ⟨v14, rfl, hv14, rfl, rfl⟩
    refine r_top (b := l) (by rw [hl, if_neg (by omega), hv14]) ?_
    refine r_virtual (mj := 126) (b := 75) (as := [yi l]) (rest := []) f_129_17 (by decide) rfl m_126 (by decide) (by decide) (by decide) rfl rfl (Nat.le_of_ble_eq_true rfl) (by omega) (m_unwX ht hl17 (by omega) hc hin) ?_
    rintro _ M2 _ ⟨rfl, ⟨hc2, hin2, f2⟩, rfl⟩
    have e27 := hc2.2.1
    have hl2 := hin2.1
    refine r_run 1 (pc' := 21) (ls' := [some (yr 75), some (yi s)]) (st' := [yi s]) (M' := M2) (N' := N) rfl ?_
    refine r_static (mj := 124) (as := [yi s]) (rest := []) f_129_21 (by decide) rfl m_124 rfl rfl rfl (Nat.le_of_ble_eq_true rfl) (by omega) (m_rank (by omega)) ?_
    rintro _ _ _ ⟨v21, rfl, hv21, rfl, rfl⟩
    refine r_run 1 (pc' := 25) (ls' := [some (yr 75), some (yi s)]) (st' := [yi 4, yi v21]) (M' := M2) (N' := N) rfl ?_
    refine r_icmp_ne (pc := 25) f_129_25 (by omega) (by omega) (fun h25 => ?_) (fun h25 => ?_)
    · refine r_run 2 (pc' := 57) (ls' := [some (yr 75), some (yi s)]) (st' := [yi s, yr 75]) (M' := M2) (N' := N) rfl ?_
      refine r_virtual (mj := 127) (b := 75) (as := [yi s]) (rest := []) f_129_57 (by decide) rfl m_127 (by decide) (by decide) (by decide) rfl rfl (Nat.le_of_ble_eq_true rfl) (by omega) (m_holdsX hc2 (by show (ux l X).1.length < 200; omega)) ?_
      rintro _ M3 _ ⟨rfl, ⟨hc3, f3⟩, rfl⟩
      refine r_run 1 (pc' := 61) (ls' := [some (yr 75), some (yi s)]) (st' := [yi 1]) (M' := M3) (N' := N) rfl ?_
      refine r_zret m_129 rfl f_129_61 (by omega) ?_
      exact ⟨1, rfl, Or.inr ⟨rfl, fun h => by have := h.1; omega, hc3, f2.trans f3⟩, rfl⟩
    · refine r_run 2 (pc' := 32) (ls' := [some (yr 75), some (yi s)]) (st' := [yi (M2 75 27)]) (M' := M2) (N' := N) rfl ?_
      refine r_if_le (pc := 32) f_129_32 (by omega) (fun h32 => ?_) (fun h32 => ?_)
      · refine r_run 2 (pc' := 57) (ls' := [some (yr 75), some (yi s)]) (st' := [yi s, yr 75]) (M' := M2) (N' := N) rfl ?_
        refine r_virtual (mj := 127) (b := 75) (as := [yi s]) (rest := []) f_129_57 (by decide) rfl m_127 (by decide) (by decide) (by decide) rfl rfl (Nat.le_of_ble_eq_true rfl) (by omega) (m_holdsX hc2 (by show (ux l X).1.length < 200; omega)) ?_
        rintro _ M3 _ ⟨rfl, ⟨hc3, f3⟩, rfl⟩
        refine r_run 1 (pc' := 61) (ls' := [some (yr 75), some (yi s)]) (st' := [yi 1]) (M' := M3) (N' := N) rfl ?_
        refine r_zret m_129 rfl f_129_61 (by omega) ?_
        exact ⟨1, rfl, Or.inr ⟨rfl, fun h => by rw [core_nil hc2 (by omega)] at h; exact absurd h.2 (by decide), hc3, f2.trans f3⟩, rfl⟩
      · obtain ⟨s2, H2, eU, es2, hs2⟩ := core_top hc2 hin2 (by omega)
        refine r_run 6 (pc' := 45) (ls' := [some (yr 75), some (yi s)]) (st' := [yi ((M2 75 27) - 1), yr 87]) (M' := M2) (N' := N) rfl ?_
        refine r_iald (n := 200) f_129_45 (by decide) (by decide) (by decide) (by omega) ?_
        refine r_static (mj := 124) (as := [yi (M2 87 ((M2 75 27) - 1))]) (rest := []) f_129_46 (by decide) rfl m_124 rfl rfl rfl (Nat.le_of_ble_eq_true rfl) (by omega) (m_rank (by omega)) ?_
        rintro _ _ _ ⟨v46, rfl, hv46, rfl, rfl⟩
        rw [es2] at hv46
        have rb2 := rk_le s2
        have rg2 := rk_ge s2
        refine r_run 1 (pc' := 50) (ls' := [some (yr 75), some (yi s)]) (st' := [yi 4, yi v46]) (M' := M2) (N' := N) rfl ?_
        refine r_icmp_ne (pc := 50) f_129_50 (by omega) (by omega) (fun h50 => ?_) (fun h50 => ?_)
        · refine r_run 2 (pc' := 57) (ls' := [some (yr 75), some (yi s)]) (st' := [yi s, yr 75]) (M' := M2) (N' := N) rfl ?_
          refine r_virtual (mj := 127) (b := 75) (as := [yi s]) (rest := []) f_129_57 (by decide) rfl m_127 (by decide) (by decide) (by decide) rfl rfl (Nat.le_of_ble_eq_true rfl) (by omega) (m_holdsX hc2 (by show (ux l X).1.length < 200; omega)) ?_
          rintro _ M3 _ ⟨rfl, ⟨hc3, f3⟩, rfl⟩
          refine r_run 1 (pc' := 61) (ls' := [some (yr 75), some (yi s)]) (st' := [yi 1]) (M' := M3) (N' := N) rfl ?_
          refine r_zret m_129 rfl f_129_61 (by omega) ?_
          exact ⟨1, rfl, Or.inr ⟨rfl, fun h => by have h2 := h.2; rw [eU] at h2; have h2 : rk s2 = 4 := h2; omega, hc3, f2.trans f3⟩, rfl⟩
        · refine r_run 1 (pc' := 54) (ls' := [some (yr 75), some (yi s)]) (st' := [yi 0]) (M' := M2) (N' := N) rfl ?_
          refine r_zret m_129 rfl f_129_54 (by omega) ?_
          exact ⟨0, rfl, Or.inl ⟨rfl, by omega, by rw [eU]; show rk s2 = 4; omega, f2⟩, rfl⟩
  · refine r_run 2 (pc' := 17) (ls' := [some (yr 75), some (yi s)]) (st' := [yi 5, yr 75]) (M' := M) (N' := N) rfl ?_
    refine r_top (b := l) (by rw [hl, if_pos (by omega)]) ?_
    refine r_virtual (mj := 126) (b := 75) (as := [yi l]) (rest := []) f_129_17 (by decide) rfl m_126 (by decide) (by decide) (by decide) rfl rfl (Nat.le_of_ble_eq_true rfl) (by omega) (m_unwX ht hl17 (by omega) hc hin) ?_
    rintro _ M2 _ ⟨rfl, ⟨hc2, hin2, f2⟩, rfl⟩
    have e27 := hc2.2.1
    have hl2 := hin2.1
    refine r_run 1 (pc' := 21) (ls' := [some (yr 75), some (yi s)]) (st' := [yi s]) (M' := M2) (N' := N) rfl ?_
    refine r_static (mj := 124) (as := [yi s]) (rest := []) f_129_21 (by decide) rfl m_124 rfl rfl rfl (Nat.le_of_ble_eq_true rfl) (by omega) (m_rank (by omega)) ?_
    rintro _ _ _ ⟨v21, rfl, hv21, rfl, rfl⟩
    refine r_run 1 (pc' := 25) (ls' := [some (yr 75), some (yi s)]) (st' := [yi 4, yi v21]) (M' := M2) (N' := N) rfl ?_
    refine r_icmp_ne (pc := 25) f_129_25 (by omega) (by omega) (fun h25 => ?_) (fun h25 => ?_)
    · refine r_run 2 (pc' := 57) (ls' := [some (yr 75), some (yi s)]) (st' := [yi s, yr 75]) (M' := M2) (N' := N) rfl ?_
      refine r_virtual (mj := 127) (b := 75) (as := [yi s]) (rest := []) f_129_57 (by decide) rfl m_127 (by decide) (by decide) (by decide) rfl rfl (Nat.le_of_ble_eq_true rfl) (by omega) (m_holdsX hc2 (by show (ux l X).1.length < 200; omega)) ?_
      rintro _ M3 _ ⟨rfl, ⟨hc3, f3⟩, rfl⟩
      refine r_run 1 (pc' := 61) (ls' := [some (yr 75), some (yi s)]) (st' := [yi 1]) (M' := M3) (N' := N) rfl ?_
      refine r_zret m_129 rfl f_129_61 (by omega) ?_
      exact ⟨1, rfl, Or.inr ⟨rfl, fun h => by have := h.1; omega, hc3, f2.trans f3⟩, rfl⟩
    · refine r_run 2 (pc' := 32) (ls' := [some (yr 75), some (yi s)]) (st' := [yi (M2 75 27)]) (M' := M2) (N' := N) rfl ?_
      refine r_if_le (pc := 32) f_129_32 (by omega) (fun h32 => ?_) (fun h32 => ?_)
      · refine r_run 2 (pc' := 57) (ls' := [some (yr 75), some (yi s)]) (st' := [yi s, yr 75]) (M' := M2) (N' := N) rfl ?_
        refine r_virtual (mj := 127) (b := 75) (as := [yi s]) (rest := []) f_129_57 (by decide) rfl m_127 (by decide) (by decide) (by decide) rfl rfl (Nat.le_of_ble_eq_true rfl) (by omega) (m_holdsX hc2 (by show (ux l X).1.length < 200; omega)) ?_
        rintro _ M3 _ ⟨rfl, ⟨hc3, f3⟩, rfl⟩
        refine r_run 1 (pc' := 61) (ls' := [some (yr 75), some (yi s)]) (st' := [yi 1]) (M' := M3) (N' := N) rfl ?_
        refine r_zret m_129 rfl f_129_61 (by omega) ?_
        exact ⟨1, rfl, Or.inr ⟨rfl, fun h => by rw [core_nil hc2 (by omega)] at h; exact absurd h.2 (by decide), hc3, f2.trans f3⟩, rfl⟩
      · obtain ⟨s2, H2, eU, es2, hs2⟩ := core_top hc2 hin2 (by omega)
        refine r_run 6 (pc' := 45) (ls' := [some (yr 75), some (yi s)]) (st' := [yi ((M2 75 27) - 1), yr 87]) (M' := M2) (N' := N) rfl ?_
        refine r_iald (n := 200) f_129_45 (by decide) (by decide) (by decide) (by omega) ?_
        refine r_static (mj := 124) (as := [yi (M2 87 ((M2 75 27) - 1))]) (rest := []) f_129_46 (by decide) rfl m_124 rfl rfl rfl (Nat.le_of_ble_eq_true rfl) (by omega) (m_rank (by omega)) ?_
        rintro _ _ _ ⟨v46, rfl, hv46, rfl, rfl⟩
        rw [es2] at hv46
        have rb2 := rk_le s2
        have rg2 := rk_ge s2
        refine r_run 1 (pc' := 50) (ls' := [some (yr 75), some (yi s)]) (st' := [yi 4, yi v46]) (M' := M2) (N' := N) rfl ?_
        refine r_icmp_ne (pc := 50) f_129_50 (by omega) (by omega) (fun h50 => ?_) (fun h50 => ?_)
        · refine r_run 2 (pc' := 57) (ls' := [some (yr 75), some (yi s)]) (st' := [yi s, yr 75]) (M' := M2) (N' := N) rfl ?_
          refine r_virtual (mj := 127) (b := 75) (as := [yi s]) (rest := []) f_129_57 (by decide) rfl m_127 (by decide) (by decide) (by decide) rfl rfl (Nat.le_of_ble_eq_true rfl) (by omega) (m_holdsX hc2 (by show (ux l X).1.length < 200; omega)) ?_
          rintro _ M3 _ ⟨rfl, ⟨hc3, f3⟩, rfl⟩
          refine r_run 1 (pc' := 61) (ls' := [some (yr 75), some (yi s)]) (st' := [yi 1]) (M' := M3) (N' := N) rfl ?_
          refine r_zret m_129 rfl f_129_61 (by omega) ?_
          exact ⟨1, rfl, Or.inr ⟨rfl, fun h => by have h2 := h.2; rw [eU] at h2; have h2 : rk s2 = 4 := h2; omega, hc3, f2.trans f3⟩, rfl⟩
        · refine r_run 1 (pc' := 54) (ls' := [some (yr 75), some (yi s)]) (st' := [yi 0]) (M' := M2) (N' := N) rfl ?_
          refine r_zret m_129 rfl f_129_54 (by omega) ?_
          exact ⟨0, rfl, Or.inl ⟨rfl, by omega, by rw [eU]; show rk s2 = 4; omega, f2⟩, rfl⟩
theorem m_signOf {S : XS} {M N : YM} (ht : -1 ≤ M 75 23 ∧ M 75 23 ≤ 255) : rm S 0 130 [yr 75] M N (fun r M' N' => ∃ v : Int, some (yi v) = r ∧ (v = sgO (M 75 23)) ∧ M = M' ∧ N = N') := by
  refine ⟨xe_130, m_130, Nat.le_of_ble_eq_true rfl, ?_⟩
  refine r_run 3 (pc' := 5) (ls' := [some (yr 75)]) (st' := [yi 4, yi (M 75 23)]) (M' := M) (N' := N) rfl ?_
  refine r_icmp_ne (pc := 5) f_130_5 (by omega) (by omega) (fun h5 => ?_) (fun h5 => ?_)
  · refine r_run 3 (pc' := 18) (ls' := [some (yr 75)]) (st' := [yi 5, yi (M 75 23)]) (M' := M) (N' := N) rfl ?_
    refine r_icmp_ne (pc := 18) f_130_18 (by omega) (by omega) (fun h18 => ?_) (fun h18 => ?_)
    · refine r_run 3 (pc' := 32) (ls' := [some (yr 75)]) (st' := [yi 60, yi (M 75 23)]) (M' := M) (N' := N) rfl ?_
      refine r_icmp_ne (pc := 32) f_130_32 (by omega) (by omega) (fun h32 => ?_) (fun h32 => ?_)
      · refine r_run 3 (pc' := 46) (ls' := [some (yr 75)]) (st' := [yi 61, yi (M 75 23)]) (M' := M) (N' := N) rfl ?_
        refine r_icmp_ne (pc := 46) f_130_46 (by omega) (by omega) (fun h46 => ?_) (fun h46 => ?_)
        · refine r_run 3 (pc' := 60) (ls' := [some (yr 75)]) (st' := [yi 43, yi (M 75 23)]) (M' := M) (N' := N) rfl ?_
          refine r_icmp_ne (pc := 60) f_130_60 (by omega) (by omega) (fun h60 => ?_) (fun h60 => ?_)
          · refine r_run 3 (pc' := 74) (ls' := [some (yr 75)]) (st' := [yi 45, yi (M 75 23)]) (M' := M) (N' := N) rfl ?_
            refine r_icmp_ne (pc := 74) f_130_74 (by omega) (by omega) (fun h74 => ?_) (fun h74 => ?_)
            · refine r_run 3 (pc' := 88) (ls' := [some (yr 75)]) (st' := [yi 42, yi (M 75 23)]) (M' := M) (N' := N) rfl ?_
              refine r_icmp_ne (pc := 88) f_130_88 (by omega) (by omega) (fun h88 => ?_) (fun h88 => ?_)
              · refine r_run 1 (pc' := 97) (ls' := [some (yr 75)]) (st' := [yi (-1)]) (M' := M) (N' := N) rfl ?_
                refine r_iret m_130 rfl f_130_97 ?_
                exact ⟨_, rfl, by unfold sgO; rw [if_neg (by omega), if_neg (by omega), if_neg (by omega), if_neg (by omega), if_neg (by omega), if_neg (by omega), if_neg (by omega)], rfl, rfl⟩
              · refine r_run 2 (pc' := 97) (ls' := [some (yr 75)]) (st' := [yi 18]) (M' := M) (N' := N) rfl ?_
                refine r_iret m_130 rfl f_130_97 ?_
                exact ⟨_, rfl, by unfold sgO; rw [if_neg (by omega), if_neg (by omega), if_neg (by omega), if_neg (by omega), if_neg (by omega), if_neg (by omega), if_pos (by omega)], rfl, rfl⟩
            · refine r_run 2 (pc' := 97) (ls' := [some (yr 75)]) (st' := [yi 17]) (M' := M) (N' := N) rfl ?_
              refine r_iret m_130 rfl f_130_97 ?_
              exact ⟨_, rfl, by unfold sgO; rw [if_neg (by omega), if_neg (by omega), if_neg (by omega), if_neg (by omega), if_neg (by omega), if_pos (by omega)], rfl, rfl⟩
          · refine r_run 2 (pc' := 97) (ls' := [some (yr 75)]) (st' := [yi 16]) (M' := M) (N' := N) rfl ?_
            refine r_iret m_130 rfl f_130_97 ?_
            exact ⟨_, rfl, by unfold sgO; rw [if_neg (by omega), if_neg (by omega), if_neg (by omega), if_neg (by omega), if_pos (by omega)], rfl, rfl⟩
        · refine r_run 2 (pc' := 97) (ls' := [some (yr 75)]) (st' := [yi 15]) (M' := M) (N' := N) rfl ?_
          refine r_iret m_130 rfl f_130_97 ?_
          exact ⟨_, rfl, by unfold sgO; rw [if_neg (by omega), if_neg (by omega), if_neg (by omega), if_pos (by omega)], rfl, rfl⟩
      · refine r_run 2 (pc' := 97) (ls' := [some (yr 75)]) (st' := [yi 14]) (M' := M) (N' := N) rfl ?_
        refine r_iret m_130 rfl f_130_97 ?_
        exact ⟨_, rfl, by unfold sgO; rw [if_neg (by omega), if_neg (by omega), if_pos (by omega)], rfl, rfl⟩
    · refine r_run 2 (pc' := 97) (ls' := [some (yr 75)]) (st' := [yi 12]) (M' := M) (N' := N) rfl ?_
      refine r_iret m_130 rfl f_130_97 ?_
      exact ⟨_, rfl, by unfold sgO; rw [if_neg (by omega), if_pos (by omega)], rfl, rfl⟩
  · refine r_run 2 (pc' := 97) (ls' := [some (yr 75)]) (st' := [yi 11]) (M' := M) (N' := N) rfl ?_
    refine r_iret m_130 rfl f_130_97 ?_
    exact ⟨_, rfl, by unfold sgO; rw [if_pos (by omega)], rfl, rfl⟩
theorem mTok_is (k : Int) : (k = 1 ∧ mTok k = -1) ∨ (k = 2 ∧ mTok k = 1) ∨ (k = 3 ∧ mTok k = 2) ∨ (7 ≤ k ∧ k ≤ 9 ∧ mTok k = 3) ∨ ((k < 1 ∨ (3 < k ∧ k < 7) ∨ 9 < k) ∧ mTok k = k) := by
  unfold mTok
  (repeat' split) <;> omega
theorem sgO_tok (k : Int) : sgO (mTok k) = sgO k := by
  rcases mTok_is k with ⟨rfl, h⟩ | ⟨rfl, h⟩ | ⟨rfl, h⟩ | ⟨h1, h2, h⟩ | ⟨-, h⟩
  · rfl
  · rfl
  · rfl
  · rw [h]
    rcases (show k = 7 ∨ k = 8 ∨ k = 9 by omega) with rfl | rfl | rfl <;> rfl
  · rw [h]
theorem sgO_rng (k : Int) : -1 ≤ sgO k ∧ sgO k ≤ 18 := by
  unfold sgO
  (repeat' split) <;> omega
theorem sgO_in {k : Int} (h : sgO k ≠ -1) : 11 ≤ sgO k ∧ sgO k ≤ 18 ∧ k ≠ 59 ∧ k ≠ 41 := by
  unfold sgO at h ⊢
  (repeat' split) <;> first | omega | (exfalso; apply h; (repeat' split) <;> omega)
section MR
variable {K V : Nat → Int}
theorem run_l {f : Nat} {w m : Bool} {i : Nat} {H : List Int} {o : Int} {c : List Int} {r q : pR} (h : mst K V w m i H o c = .inl r) (hr : mrun K V (f + 1) (w, m, i, H, o, c) = some q) : q = r := by
  have k : (match mst K V w m i H o c with
    | .inl r => some r
    | .inr s' => mrun K V f s') = some q := hr
  rw [h] at k
  exact (Option.some.inj k).symm
theorem run_r {f : Nat} {w m : Bool} {i : Nat} {H : List Int} {o : Int} {c : List Int} {s' : zS} {q : pR} (h : mst K V w m i H o c = .inr s') (hr : mrun K V (f + 1) (w, m, i, H, o, c) = some q) : mrun K V f s' = some q := by
  have k : (match mst K V w m i H o c with
    | .inl r => some r
    | .inr s' => mrun K V f s') = some q := hr
  rw [h] at k
  exact k
end MR
/-- the reference's place on the tape -/
def lexS (T : Int → Int) (n : Int) (M : YM) (i : Nat) : Prop := M 78 = T ∧ M 75 6 = n ∧ RW M ∧ M 75 21 = pz T n i
def frE (t : Int) (M M' : YM) : Prop := (∀ c, c ≠ 75 → c ≠ 79 → c ≠ 87 → M' c = M c) ∧ (∀ k, k < 21 → M' 75 k = M 75 k) ∧ ∀ k, k < 200 * t → M' 79 k = M 79 k
theorem frK.e {t : Int} {M M' : YM} (h : frK t M M') : frE t M M' := ⟨h.1, fun k hk => h.2.1 k (by omega), h.2.2⟩
theorem frE.trans {t : Int} {A B C : YM} (h : frE t A B) (g : frE t B C) : frE t A C := ⟨fun c h1 h2 h3 => (g.1 c h1 h2 h3).trans (h.1 c h1 h2 h3), fun k hk => (g.2.1 k hk).trans (h.2.1 k hk), fun k hk => (g.2.2 k hk).trans (h.2.2 k hk)⟩
theorem lexS.fr {T : Int → Int} {n t : Int} {M M' : YM} {i : Nat} (h : lexS T n M i) (g : frK t M M') : lexS T n M' i := ⟨by rw [g.1 78 (by decide) (by decide) (by decide)]; exact h.1, by rw [g.2.1 6 (by decide)]; exact h.2.1, fun k hk => by rw [g.1 86 (by decide) (by decide) (by decide)]; exact h.2.2.1 k hk, by rw [g.2.1 21 (by decide)]; exact h.2.2.2⟩
/-- a token taken, told by its number -/
theorem m_nextX {S : XS} {M N : YM} {T : Int → Int} {n t : Int} {i : Nat} (ht : tpOk T n) (h : lexS T n M i) : rm S 2 123 [yr 75] M N (fun r M' N' => none = r ∧ (lexS T n M' (i + 1) ∧ M' 75 22 = tb T n i ∧ M' 75 23 = mTok (tkK T n i) ∧ (tkK T n i = 2 ∨ tkK T n i = 3 → M' 75 24 = vAt T n (tb T n i)) ∧ (7 ≤ tkK T n i ∧ tkK T n i ≤ 9 → M' 75 24 = tkK T n i - 7) ∧ (∀ c, c ≠ 75 → M' c = M c) ∧ (∀ k, k < 21 ∨ 24 < k → M' 75 k = M 75 k) ∧ frE t M M') ∧ N = N') := by
  obtain ⟨h1, h2, h3, h4⟩ := h
  refine rm_post (m_next (n := n) (by rw [h1]; exact ht) h3 h2 (pz_in (T := T) ht.1.1 i) h4 (b := tb T n i) (by rw [h1]; rfl)) ?_
  rintro _ M' _ ⟨rfl, ⟨g0, g1, g2, g3, g4, g5, g6⟩, rfl⟩
  rw [h1] at g3 g4 g5 g6
  exact ⟨rfl, ⟨⟨by rw [g0 78 (by decide)]; exact h1, by rw [g1 6 (by decide)]; exact h2, fun k hk => by rw [g0 86 (by decide)]; exact h3 k hk, g3⟩, g2, g4, g5, g6, g0, g1, ⟨fun c h1 _ _ => g0 c h1, fun k hk => g1 k (by omega), fun k hk => by rw [g0 79 (by decide)]⟩⟩, rfl⟩
theorem mCore.nx {t : Int} {M M' : YM} {X : zU} (h : mCore t M X) (g0 : ∀ c, c ≠ 75 → M' c = M c) (g1 : ∀ k, k < 21 ∨ 24 < k → M' 75 k = M 75 k) : mCore t M' X := by
  unfold mCore
  rw [g0 87 (by decide), g0 79 (by decide), g1 9 (by decide), g1 27 (by decide), g1 28 (by decide), g1 29 (by decide)]
  exact h
theorem m_eRead_l {S : XS} {d : Nat} {T : Int → Int} {n t : Int} {N : YM} {q : pR} (hd : 3 ≤ d) (htp : tpOk T n) (ht : 0 ≤ t ∧ t ≤ 5) {f : Nat} : ∀ {w m : Bool} {i : Nat} {H : List Int} {o : Int} {c : List Int} {M : YM} {x y : Int} {l3 : Option YV}, lexS T n M i → mCore t M (H, o, c) → xIn i (H, o, c) → ((x = 1 ∧ w = true) ∨ (x = 0 ∧ w = false)) → ((y = 1 ∧ m = true) ∨ (y = 0 ∧ m = false)) → mrun (tkK T n) (tkV T n) f (w, m, i, H, o, c) = some q → ry S d 131 14 [some (yr 75), some (yi x), some (yi y), l3] [] M N (fun r M' N' => ∃ v : Int, some (yi v) = r ∧ ((v = 1 ∧ q.1 = true ∧ M' 75 29 = q.2.2.length ∧ crep (M' 79) (200 * t) q.2.2) ∨ (v = 0 ∧ q.1 = false)) ∧ M' 75 22 = tb T n q.2.1 ∧ lexS T n M' (q.2.1 + 1) ∧ frE t M M' ∧ N = N') := by
  induction f with
  | zero =>
    intro w m i H o c M x y l3 hlx hc hin hx hy hr
    exact absurd (show (none : Option pR) = some q from hr) (by intro h; cases h)
  | succ f ih =>
    intro w m i H o c M x y l3 hlx hc hin hx hy hr
    have hlen : H.length + c.length ≤ i := hin.1
    refine r_run 1 (pc' := 15) (ls' := [some (yr 75), some (yi x), some (yi y), l3]) (st' := [yr 75]) (M' := M) (N' := N) rfl ?_
    refine r_virtual (mj := 123) (b := 75) (as := []) (rest := []) f_131_15 (by decide) rfl m_123 (by decide) (by decide) (by decide) rfl rfl (Nat.le_of_ble_eq_true rfl) (by omega) (m_nextX (t := t) htp hlx) ?_
    rintro _ M2 _ ⟨rfl, ⟨lx2, b2, k2, v2, -, g0, g1, e2⟩, rfl⟩
    have hc2 := hc.nx g0 g1
    have ti := mTok_is (tkK T n i)
    refine r_run 1 (pc' := 19) (ls' := [some (yr 75), some (yi x), some (yi y), l3]) (st' := [yi x]) (M' := M2) (N' := N) rfl ?_
    refine r_if_eq (pc := 19) f_131_19 (by omega) (fun h19 => ?_) (fun h19 => ?_)
    · refine r_run 3 (pc' := 156) (ls' := [some (yr 75), some (yi x), some (yi y), l3]) (st' := [yi 59, yi (M2 75 23)]) (M' := M2) (N' := N) rfl ?_
      refine r_icmp_ne (pc := 156) f_131_156 (by have := tkK_in htp i; omega) (by omega) (fun h156 => ?_) (fun h156 => ?_)
      · refine r_run 3 (pc' := 183) (ls' := [some (yr 75), some (yi x), some (yi y), l3]) (st' := [yi 41, yi (M2 75 23)]) (M' := M2) (N' := N) rfl ?_
        refine r_icmp_ne (pc := 183) f_131_183 (by have := tkK_in htp i; omega) (by omega) (fun h183 => ?_) (fun h183 => ?_)
        · refine r_run 1 (pc' := 230) (ls' := [some (yr 75), some (yi x), some (yi y), l3]) (st' := [yr 75]) (M' := M2) (N' := N) rfl ?_
          refine r_virtual (mj := 130) (b := 75) (as := []) (rest := []) f_131_230 (by decide) rfl m_130 (by decide) (by decide) (by decide) rfl rfl (Nat.le_of_ble_eq_true rfl) (by omega) (m_signOf (by have := tkK_in htp i; omega)) ?_
          rintro _ _ _ ⟨vs, rfl, hvs, rfl, rfl⟩
          have hvs2 : vs = sgO (tkK T n i) := by rw [hvs, k2, sgO_tok]
          have sr := sgO_rng (tkK T n i)
          refine r_run 3 (pc' := 236) (ls' := [some (yr 75), some (yi x), some (yi y), some (yi vs)]) (st' := [yi (-1), yi vs]) (M' := M2) (N' := N) rfl ?_
          refine r_icmp_eq (pc := 236) f_131_236 (by omega) (by omega) (fun h236 => ?_) (fun h236 => ?_)
          · refine r_run 1 (pc' := 248) (ls' := [some (yr 75), some (yi x), some (yi y), some (yi vs)]) (st' := [yi 0]) (M' := M2) (N' := N) rfl ?_
            refine r_zret m_131 rfl f_131_248 (by omega) ?_
            have hw : w = false := by
              rcases hx with h | h
              · exfalso; omega
              · exact h.2
            subst hw
            have hq : q = (false, i, c) := run_l (by unfold mst; rw [if_neg (by decide), if_neg (by omega), if_neg (by omega), if_pos (by rw [← sgO_tok, ← k2, ← hvs]; omega)]) hr
            rw [hq]
            exact ⟨0, rfl, Or.inr ⟨rfl, rfl⟩, b2, lx2, e2, rfl⟩
          · have sgi := sgO_in (k := tkK T n i) (by omega)
            have i160 := (tk_ok htp).1 i (by intro h; rw [h] at hvs2; exact absurd hvs2 (by show ¬ vs = -1; omega))
            obtain ⟨l, hl⟩ : ∃ l, l = if rk vs = 4 then 5 else rk vs := ⟨_, rfl⟩
            refine r_run 2 (pc' := 241) (ls' := [some (yr 75), some (yi x), some (yi y), some (yi vs)]) (st' := [yi vs, yr 75]) (M' := M2) (N' := N) rfl ?_
            refine r_virtual (mj := 129) (b := 75) (as := [yi vs]) (rest := []) f_131_241 (by decide) rfl m_129 (by decide) (by decide) (by decide) rfl rfl (Nat.le_of_ble_eq_true rfl) (by omega) (m_betweenX ht (by omega) hc2 hin i160 hl) ?_
            rintro _ M3 _ ⟨vb, rfl, hvb, rfl⟩
            have wb : vb = 0 ∨ vb = 1 := by rcases hvb with h | h; exact Or.inl h.1; exact Or.inr h.1
            refine r_if_ne (pc := 244) f_131_244 (by omega) (fun h244 => ?_) (fun h244 => ?_)
            · refine r_run 4 (pc' := 254) (ls' := [some (yr 75), some (yi 1), some (yi y), some (yi vs)]) (st' := [yi 12, yi vs]) (M' := M3) (N' := N) rfl ?_
              refine r_icmp_gt (pc := 254) f_131_254 (by omega) (by omega) (fun h254 => ?_) (fun h254 => ?_)
              · refine r_run 3 (pc' := 14) (ls' := [some (yr 75), some (yi 1), some (yi 0), some (yi vs)]) (st' := []) (M' := M3) (N' := N) rfl ?_
                have hw : w = false := by
                  rcases hx with h | h
                  · exfalso; omega
                  · exact h.2
                subst hw
                rw [k2, sgO_tok] at hvs
                obtain ⟨hnb, hc3, f3⟩ : ¬ (rk vs = 4 ∧ tr (ux l (H, o, c)).1 = 4) ∧ mCore t M3 (vs :: (ux l (H, o, c)).1, (ux l (H, o, c)).2.1, (ux l (H, o, c)).2.2) ∧ frK t M2 M3 := by
                  rcases hvb with h | h
                  · exfalso; omega
                  · exact h.2
                have hr2 : mrun (tkK T n) (tkV T n) f (true, false, i + 1, vs :: (ux l (H, o, c)).1, (ux l (H, o, c)).2.1, (ux l (H, o, c)).2.2) = some q := by
                  refine run_r ?_ hr
                  unfold mst
                  rw [if_neg (by decide), if_neg (by omega), if_neg (by omega), ← hvs, if_neg (by omega), decide_eq_false (show ¬ vs ≤ 12 by omega)]
                  by_cases h4 : rk vs = 4
                  · have hl5 : l = 5 := by rw [hl, if_pos h4]
                    rw [if_pos h4, if_neg (fun h => hnb ⟨h4, by rw [hl5]; exact h⟩), hl5]
                  · have hl5 : l = rk vs := by rw [hl, if_neg h4]
                    rw [if_neg h4, hl5]
                refine r_post (ih (w := true) (m := false) (l3 := some (yi vs)) (lx2.fr f3) hc3 ((uw_in hin).sign (by omega)) (Or.inl ⟨by omega, rfl⟩) (Or.inr ⟨rfl, rfl⟩) hr2) ?_
                rintro _ M' _ ⟨v, rfl, h1, h2, h3, h4, rfl⟩
                exact ⟨v, rfl, h1, h2, h3, (e2.trans f3.e).trans h4, rfl⟩
              · refine r_run 4 (pc' := 14) (ls' := [some (yr 75), some (yi 1), some (yi 1), some (yi vs)]) (st' := []) (M' := M3) (N' := N) rfl ?_
                have hw : w = false := by
                  rcases hx with h | h
                  · exfalso; omega
                  · exact h.2
                subst hw
                rw [k2, sgO_tok] at hvs
                obtain ⟨hnb, hc3, f3⟩ : ¬ (rk vs = 4 ∧ tr (ux l (H, o, c)).1 = 4) ∧ mCore t M3 (vs :: (ux l (H, o, c)).1, (ux l (H, o, c)).2.1, (ux l (H, o, c)).2.2) ∧ frK t M2 M3 := by
                  rcases hvb with h | h
                  · exfalso; omega
                  · exact h.2
                have hr2 : mrun (tkK T n) (tkV T n) f (true, true, i + 1, vs :: (ux l (H, o, c)).1, (ux l (H, o, c)).2.1, (ux l (H, o, c)).2.2) = some q := by
                  refine run_r ?_ hr
                  unfold mst
                  rw [if_neg (by decide), if_neg (by omega), if_neg (by omega), ← hvs, if_neg (by omega), decide_eq_true (show vs ≤ 12 by omega)]
                  by_cases h4 : rk vs = 4
                  · have hl5 : l = 5 := by rw [hl, if_pos h4]
                    rw [if_pos h4, if_neg (fun h => hnb ⟨h4, by rw [hl5]; exact h⟩), hl5]
                  · have hl5 : l = rk vs := by rw [hl, if_neg h4]
                    rw [if_neg h4, hl5]
                refine r_post (ih (w := true) (m := true) (l3 := some (yi vs)) (lx2.fr f3) hc3 ((uw_in hin).sign (by omega)) (Or.inl ⟨by omega, rfl⟩) (Or.inl ⟨rfl, rfl⟩) hr2) ?_
                rintro _ M' _ ⟨v, rfl, h1, h2, h3, h4, rfl⟩
                exact ⟨v, rfl, h1, h2, h3, (e2.trans f3.e).trans h4, rfl⟩
            · refine r_run 1 (pc' := 248) (ls' := [some (yr 75), some (yi x), some (yi y), some (yi vs)]) (st' := [yi 0]) (M' := M3) (N' := N) rfl ?_
              refine r_zret m_131 rfl f_131_248 (by omega) ?_
              have hw : w = false := by
                rcases hx with h | h
                · exfalso; omega
                · exact h.2
              subst hw
              rw [k2, sgO_tok] at hvs
              obtain ⟨hr4, htr, f3⟩ : rk vs = 4 ∧ tr (ux l (H, o, c)).1 = 4 ∧ frK t M2 M3 := by
                rcases hvb with h | h
                · exact h.2
                · exfalso; omega
              have hl5 : l = 5 := by rw [hl, if_pos hr4]
              rw [hl5] at htr
              have hq : q = (false, i, c) := run_l (by unfold mst; rw [if_neg (by decide), if_neg (by omega), if_neg (by omega), if_neg (by omega), ← hvs, if_pos hr4, if_pos htr]) hr
              rw [hq]
              exact ⟨0, rfl, Or.inr ⟨rfl, rfl⟩, by rw [f3.2.1 22 (by decide)]; exact b2, lx2.fr f3, e2.trans f3.e, rfl⟩
        · have i160 := (tk_ok htp).1 i (by omega)
          refine r_run 2 (pc' := 188) (ls' := [some (yr 75), some (yi x), some (yi y), l3]) (st' := [yi 1, yr 75]) (M' := M2) (N' := N) rfl ?_
          refine r_virtual (mj := 126) (b := 75) (as := [yi 1]) (rest := []) f_131_188 (by decide) rfl m_126 (by decide) (by decide) (by decide) rfl rfl (Nat.le_of_ble_eq_true rfl) (by omega) (m_unwX (l := 1) ht (by decide) (by omega) hc2 hin) ?_
          rintro _ M3 _ ⟨rfl, ⟨hc3, hin3, f3⟩, rfl⟩
          have e27 := hc3.2.1
          have hl3 := hin3.1
          refine r_run 2 (pc' := 195) (ls' := [some (yr 75), some (yi x), some (yi y), l3]) (st' := [yi (M3 75 27)]) (M' := M3) (N' := N) rfl ?_
          refine r_if_ne (pc := 195) f_131_195 (by omega) (fun h195 => ?_) (fun h195 => ?_)
          · refine r_run 12 (pc' := 220) (ls' := [some (yr 75), some (yi x), some (yi y), l3]) (st' := []) (M' := (yu (yu M3 75 27 ((M3 75 27) - 1)) 75 28 ((M3 75 28) - 1))) (N' := N) rfl ?_
            obtain ⟨s2, H2, eU1, -, -⟩ := core_top hc3 hin3 (by omega)
            have eU : ux 1 (H, o, c) = (s2 :: H2, (ux 1 (H, o, c)).2.1, (ux 1 (H, o, c)).2.2) := by rw [← eU1]
            rw [eU] at hc3 hin3
            generalize (ux 1 (H, o, c)).2.1 = o2 at *
            generalize (ux 1 (H, o, c)).2.2 = c2 at *
            have h27 : M3 75 27 = H2.length + 1 := hc3.2.1
            have h28 : M3 75 28 = o2 := hc3.2.2.2.1
            have hin5 := hin3.shut
            have hc5 : mCore t (yu (yu M3 75 27 ((M3 75 27) - 1)) 75 28 ((M3 75 28) - 1)) (H2, o2 - 1, c2) := ⟨by rw [yu_ne (Or.inr (by decide)), yu_ne (Or.inr (by decide))]; exact hc3.1, by rw [yu_ne (Or.inr (by decide)), yu_at, h27]; show _ = (H2.length : Int); omega, by rw [yu_rn (by decide), yu_rn (by decide)]; exact hc3.2.2.1.2, by rw [yu_at, h28], by rw [yu_ne (Or.inr (by decide)), yu_ne (Or.inr (by decide))]; exact hc3.2.2.2.2.1, by rw [yu_rn (by decide), yu_rn (by decide)]; exact hc3.2.2.2.2.2⟩
            have f5 : frK t M3 (yu (yu M3 75 27 ((M3 75 27) - 1)) 75 28 ((M3 75 28) - 1)) := ⟨fun c g1 g2 g3 => by rw [yu_rn g1, yu_rn g1], fun k hk => by rw [yu_ne (Or.inr (by omega)), yu_ne (Or.inr (by omega))], fun k hk => by rw [yu_rn (by decide), yu_rn (by decide)]⟩
            refine r_run 2 (pc' := 223) (ls' := [some (yr 75), some (yi x), some (yi y), l3]) (st' := [yi 7, yr 75]) (M' := (yu (yu M3 75 27 ((M3 75 27) - 1)) 75 28 ((M3 75 28) - 1))) (N' := N) rfl ?_
            refine r_virtual (mj := 126) (b := 75) (as := [yi 7]) (rest := []) f_131_223 (by decide) rfl m_126 (by decide) (by decide) (by decide) rfl rfl (Nat.le_of_ble_eq_true rfl) (by omega) (m_unwX (l := 7) ht (by decide) (by omega) hc5 hin5) ?_
            rintro _ M6 _ ⟨rfl, ⟨hc6, hin6, f6⟩, rfl⟩
            refine r_run 1 (pc' := 14) (ls' := [some (yr 75), some (yi x), some (yi y), l3]) (st' := []) (M' := M6) (N' := N) rfl ?_
            have hw : w = false := by
              rcases hx with h | h
              · exfalso; omega
              · exact h.2
            subst hw
            have hr2 := run_r (by unfold mst; rw [if_neg (by decide), if_neg (by omega), if_pos (by omega), show uw 1 H o c = _ from eU, if_neg (by intro h; exact absurd h (List.cons_ne_nil _ _))]) hr
            refine r_post (ih (w := false) (m := m) (l3 := l3) ((lx2.fr f3).fr (f5.trans f6)) hc6 hin6 (Or.inr ⟨by omega, rfl⟩) hy hr2) ?_
            rintro _ M' _ ⟨v, rfl, h1, h2, h3, h4, rfl⟩
            exact ⟨v, rfl, h1, h2, h3, (e2.trans (f3.trans (f5.trans f6)).e).trans h4, rfl⟩
          · refine r_run 1 (pc' := 199) (ls' := [some (yr 75), some (yi x), some (yi y), l3]) (st' := [yi 0]) (M' := M3) (N' := N) rfl ?_
            refine r_zret m_131 rfl f_131_199 (by omega) ?_
            have hw : w = false := by
              rcases hx with h | h
              · exfalso; omega
              · exact h.2
            subst hw
            have hU := core_nil hc3 (by omega)
            have hq : q = (false, i, c) := run_l (by unfold mst; rw [if_neg (by decide), if_neg (by omega), if_pos (by omega), if_pos hU]) hr
            rw [hq]
            exact ⟨0, rfl, Or.inr ⟨rfl, rfl⟩, by rw [f3.2.1 22 (by decide)]; exact b2, lx2.fr f3, e2.trans f3.e, rfl⟩
      · have i160 := (tk_ok htp).1 i (by omega)
        refine r_run 2 (pc' := 161) (ls' := [some (yr 75), some (yi x), some (yi y), l3]) (st' := [yi 1, yr 75]) (M' := M2) (N' := N) rfl ?_
        refine r_virtual (mj := 126) (b := 75) (as := [yi 1]) (rest := []) f_131_161 (by decide) rfl m_126 (by decide) (by decide) (by decide) rfl rfl (Nat.le_of_ble_eq_true rfl) (by omega) (m_unwX (l := 1) ht (by decide) (by omega) hc2 hin) ?_
        rintro _ M3 _ ⟨rfl, ⟨hc3, hin3, f3⟩, rfl⟩
        have e27 := hc3.2.1
        have hl3 := hin3.1
        refine r_run 2 (pc' := 168) (ls' := [some (yr 75), some (yi x), some (yi y), l3]) (st' := [yi (M3 75 27)]) (M' := M3) (N' := N) rfl ?_
        refine r_if_ne (pc := 168) f_131_168 (by omega) (fun h168 => ?_) (fun h168 => ?_)
        · refine r_run 1 (pc' := 176) (ls' := [some (yr 75), some (yi x), some (yi y), l3]) (st' := [yi 0]) (M' := M3) (N' := N) rfl ?_
          refine r_zret m_131 rfl f_131_176 (by omega) ?_
          have hw : w = false := by
            rcases hx with h | h
            · exfalso; omega
            · exact h.2
          subst hw
          have hU : (uw 1 H o c).1 ≠ [] := fun h => by have e := hc3.2.1; rw [show (ux 1 (H, o, c)).1 = [] from h] at e; have e : M3 75 27 = 0 := e; omega
          have hq : q = (false, i, (uw 1 H o c).2.2) := run_l (by unfold mst; rw [if_neg (by decide), if_pos (by omega), decide_eq_false hU]) hr
          rw [hq]
          exact ⟨0, rfl, Or.inr ⟨rfl, rfl⟩, by rw [f3.2.1 22 (by decide)]; exact b2, lx2.fr f3, e2.trans f3.e, rfl⟩
        · refine r_run 2 (pc' := 176) (ls' := [some (yr 75), some (yi x), some (yi y), l3]) (st' := [yi 1]) (M' := M3) (N' := N) rfl ?_
          refine r_zret m_131 rfl f_131_176 (by omega) ?_
          have hw : w = false := by
            rcases hx with h | h
            · exfalso; omega
            · exact h.2
          subst hw
          have hU := core_nil hc3 (by omega)
          have hq : q = (true, i, (uw 1 H o c).2.2) := run_l (by unfold mst; rw [if_neg (by decide), if_pos (by omega), decide_eq_true hU]) hr
          rw [hq]
          exact ⟨1, rfl, Or.inl ⟨rfl, rfl, hc3.2.2.2.2.1, hc3.2.2.2.2.2⟩, by rw [f3.2.1 22 (by decide)]; exact b2, lx2.fr f3, e2.trans f3.e, rfl⟩
    · refine r_run 3 (pc' := 27) (ls' := [some (yr 75), some (yi x), some (yi y), l3]) (st' := [yi 1, yi (M2 75 23)]) (M' := M2) (N' := N) rfl ?_
      refine r_icmp_eq (pc := 27) f_131_27 (by have := tkK_in htp i; omega) (by omega) (fun h27 => ?_) (fun h27 => ?_)
      · refine r_run 4 (pc' := 44) (ls' := [some (yr 75), some (yi x), some (yi y), l3]) (st' := [yi 1, yi (M2 75 23), yr 75]) (M' := M2) (N' := N) rfl ?_
        refine r_icmp_ne (pc := 44) f_131_44 (by have := tkK_in htp i; omega) (by omega) (fun h44 => ?_) (fun h44 => ?_)
        · refine r_run 2 (pc' := 61) (ls' := [some (yr 75), some (yi x), some (yi y), l3]) (st' := [yi (M2 75 24), yr 75]) (M' := M2) (N' := N) rfl ?_
          have e6 : M2 75 24 = tkV T n i := by exfalso; omega
          rw [e6]
          have i160 : i < 160 := by exfalso; omega
          have hin3 := hin.val (x := tkV T n i)
          refine r_virtual (mj := 125) (b := 75) (as := [yi (tkV T n i)]) (rest := []) f_131_61 (by decide) rfl m_125 (by decide) (by decide) (by decide) rfl rfl (Nat.le_of_ble_eq_true rfl) (by omega) (m_putsX ht hc2 (by omega)) ?_
          rintro _ M3 _ ⟨rfl, ⟨hc3, f3⟩, rfl⟩
          refine r_run 2 (pc' := 67) (ls' := [some (yr 75), some (yi x), some (yi y), l3]) (st' := [yi 7, yr 75]) (M' := M3) (N' := N) rfl ?_
          refine r_virtual (mj := 126) (b := 75) (as := [yi 7]) (rest := []) f_131_67 (by decide) rfl m_126 (by decide) (by decide) (by decide) rfl rfl (Nat.le_of_ble_eq_true rfl) (by omega) (m_unwX (l := 7) ht (by decide) (by omega) hc3 hin3) ?_
          rintro _ M4 _ ⟨rfl, ⟨hc4, hin4, f4⟩, rfl⟩
          refine r_run 3 (pc' := 14) (ls' := [some (yr 75), some (yi 0), some (yi y), l3]) (st' := []) (M' := M4) (N' := N) rfl ?_
          exfalso; omega
        · refine r_run 5 (pc' := 61) (ls' := [some (yr 75), some (yi x), some (yi y), l3]) (st' := [yi (100000 + (M2 75 24)), yr 75]) (M' := M2) (N' := N) rfl ?_
          have e6 : 100000 + (M2 75 24) = tkV T n i := by
            rw [v2 (by omega)]; unfold tkV; rw [if_pos (by omega)]
          rw [e6]
          have i160 := (tk_ok htp).1 i (by omega)
          have hin3 := hin.val (x := tkV T n i)
          refine r_virtual (mj := 125) (b := 75) (as := [yi (tkV T n i)]) (rest := []) f_131_61 (by decide) rfl m_125 (by decide) (by decide) (by decide) rfl rfl (Nat.le_of_ble_eq_true rfl) (by omega) (m_putsX ht hc2 (by omega)) ?_
          rintro _ M3 _ ⟨rfl, ⟨hc3, f3⟩, rfl⟩
          refine r_run 2 (pc' := 67) (ls' := [some (yr 75), some (yi x), some (yi y), l3]) (st' := [yi 7, yr 75]) (M' := M3) (N' := N) rfl ?_
          refine r_virtual (mj := 126) (b := 75) (as := [yi 7]) (rest := []) f_131_67 (by decide) rfl m_126 (by decide) (by decide) (by decide) rfl rfl (Nat.le_of_ble_eq_true rfl) (by omega) (m_unwX (l := 7) ht (by decide) (by omega) hc3 hin3) ?_
          rintro _ M4 _ ⟨rfl, ⟨hc4, hin4, f4⟩, rfl⟩
          refine r_run 3 (pc' := 14) (ls' := [some (yr 75), some (yi 0), some (yi y), l3]) (st' := []) (M' := M4) (N' := N) rfl ?_
          have hw : w = true := by
            rcases hx with h | h
            · exact h.2
            · exfalso; omega
          subst hw
          have hr2 := run_r (by unfold mst; rw [if_pos rfl, if_pos (by omega)]) hr
          refine r_post (ih (w := false) (m := m) (l3 := l3) (lx2.fr (f3.trans f4)) hc4 hin4 (Or.inr ⟨rfl, rfl⟩) hy hr2) ?_
          rintro _ M' _ ⟨v, rfl, h1, h2, h3, h4, rfl⟩
          exact ⟨v, rfl, h1, h2, h3, (e2.trans (f3.trans f4).e).trans h4, rfl⟩
      · refine r_run 3 (pc' := 35) (ls' := [some (yr 75), some (yi x), some (yi y), l3]) (st' := [yi 2, yi (M2 75 23)]) (M' := M2) (N' := N) rfl ?_
        refine r_icmp_ne (pc := 35) f_131_35 (by have := tkK_in htp i; omega) (by omega) (fun h35 => ?_) (fun h35 => ?_)
        · refine r_run 3 (pc' := 81) (ls' := [some (yr 75), some (yi x), some (yi y), l3]) (st' := [yi 6, yi (M2 75 23)]) (M' := M2) (N' := N) rfl ?_
          refine r_icmp_ne (pc := 81) f_131_81 (by have := tkK_in htp i; omega) (by omega) (fun h81 => ?_) (fun h81 => ?_)
          · refine r_run 3 (pc' := 105) (ls' := [some (yr 75), some (yi x), some (yi y), l3]) (st' := [yi 45, yi (M2 75 23)]) (M' := M2) (N' := N) rfl ?_
            refine r_icmp_ne (pc := 105) f_131_105 (by have := tkK_in htp i; omega) (by omega) (fun h105 => ?_) (fun h105 => ?_)
            · refine r_run 3 (pc' := 130) (ls' := [some (yr 75), some (yi x), some (yi y), l3]) (st' := [yi 40, yi (M2 75 23)]) (M' := M2) (N' := N) rfl ?_
              refine r_icmp_ne (pc := 130) f_131_130 (by have := tkK_in htp i; omega) (by omega) (fun h130 => ?_) (fun h130 => ?_)
              · refine r_run 1 (pc' := 149) (ls' := [some (yr 75), some (yi x), some (yi y), l3]) (st' := [yi 0]) (M' := M2) (N' := N) rfl ?_
                refine r_zret m_131 rfl f_131_149 (by omega) ?_
                have hw : w = true := by
                  rcases hx with h | h
                  · exact h.2
                  · exfalso; omega
                subst hw
                have n6 : ¬ (tkK T n i = 6 ∧ m = true) := fun h => by have := h.1; omega
                have hq : q = (false, i, c) := run_l (by unfold mst; rw [if_pos rfl, if_neg (by omega), if_neg n6, if_neg (by omega), if_neg (by omega)]) hr
                rw [hq]
                exact ⟨0, rfl, Or.inr ⟨rfl, rfl⟩, b2, lx2, e2, rfl⟩
              · have i160 := (tk_ok htp).1 i (by omega)
                refine r_run 2 (pc' := 135) (ls' := [some (yr 75), some (yi x), some (yi y), l3]) (st' := [yi 0, yr 75]) (M' := M2) (N' := N) rfl ?_
                refine r_virtual (mj := 128) (b := 75) (as := [yi 0]) (rest := []) f_131_135 (by decide) rfl m_128 (by decide) (by decide) (by decide) rfl rfl (Nat.le_of_ble_eq_true rfl) (by omega) (m_opensOneX hc2 hin i160) ?_
                rintro _ M3 _ ⟨vo, rfl, hvo, rfl⟩
                have wo : vo = 0 ∨ vo = 1 := by rcases hvo with h | h; exact Or.inl h.1; exact Or.inr h.1
                refine r_if_ne (pc := 138) f_131_138 (by omega) (fun h138 => ?_) (fun h138 => ?_)
                · refine r_run 3 (pc' := 14) (ls' := [some (yr 75), some (yi x), some (yi 1), l3]) (st' := []) (M' := M3) (N' := N) rfl ?_
                  have hw : w = true := by
                    rcases hx with h | h
                    · exact h.2
                    · exfalso; omega
                  subst hw
                  have n6 : ¬ (tkK T n i = 6 ∧ m = true) := fun h => by have := h.1; omega
                  obtain ⟨ho5, hc3, f3⟩ : o ≠ 5 ∧ mCore t M3 (0 :: H, o + 1, c) ∧ frK t M2 M3 := by
                    rcases hvo with h | h
                    · exfalso; omega
                    · exact h.2
                  have hr2 := run_r (by unfold mst; rw [if_pos rfl, if_neg (by omega), if_neg n6, if_neg (by omega), if_pos (by omega), if_neg ho5]) hr
                  refine r_post (ih (w := true) (m := true) (l3 := l3) (lx2.fr f3) hc3 (hin.hold (by decide) ho5) (Or.inl ⟨by omega, rfl⟩) (Or.inl ⟨rfl, rfl⟩) hr2) ?_
                  rintro _ M' _ ⟨v, rfl, h1, h2, h3, h4, rfl⟩
                  exact ⟨v, rfl, h1, h2, h3, (e2.trans f3.e).trans h4, rfl⟩
                · refine r_run 1 (pc' := 142) (ls' := [some (yr 75), some (yi x), some (yi y), l3]) (st' := [yi 0]) (M' := M3) (N' := N) rfl ?_
                  refine r_zret m_131 rfl f_131_142 (by omega) ?_
                  have hw : w = true := by
                    rcases hx with h | h
                    · exact h.2
                    · exfalso; omega
                  subst hw
                  have n6 : ¬ (tkK T n i = 6 ∧ m = true) := fun h => by have := h.1; omega
                  obtain ⟨ho5, hM3⟩ : o = 5 ∧ M2 = M3 := by
                    rcases hvo with h | h
                    · exact h.2
                    · exfalso; omega
                  subst hM3
                  have hq : q = (false, i, c) := run_l (by unfold mst; rw [if_pos rfl, if_neg (by omega), if_neg n6, if_neg (by omega), if_pos (by omega), if_pos ho5]) hr
                  rw [hq]
                  exact ⟨0, rfl, Or.inr ⟨rfl, rfl⟩, b2, lx2, e2, rfl⟩
            · have i160 := (tk_ok htp).1 i (by omega)
              refine r_run 2 (pc' := 111) (ls' := [some (yr 75), some (yi x), some (yi y), l3]) (st' := [yi 19, yr 75]) (M' := M2) (N' := N) rfl ?_
              refine r_virtual (mj := 128) (b := 75) (as := [yi 19]) (rest := []) f_131_111 (by decide) rfl m_128 (by decide) (by decide) (by decide) rfl rfl (Nat.le_of_ble_eq_true rfl) (by omega) (m_opensOneX hc2 hin i160) ?_
              rintro _ M3 _ ⟨vo, rfl, hvo, rfl⟩
              have wo : vo = 0 ∨ vo = 1 := by rcases hvo with h | h; exact Or.inl h.1; exact Or.inr h.1
              refine r_if_ne (pc := 114) f_131_114 (by omega) (fun h114 => ?_) (fun h114 => ?_)
              · refine r_run 3 (pc' := 14) (ls' := [some (yr 75), some (yi x), some (yi 0), l3]) (st' := []) (M' := M3) (N' := N) rfl ?_
                have hw : w = true := by
                  rcases hx with h | h
                  · exact h.2
                  · exfalso; omega
                subst hw
                have n6 : ¬ (tkK T n i = 6 ∧ m = true) := fun h => by have := h.1; omega
                obtain ⟨ho5, hc3, f3⟩ : o ≠ 5 ∧ mCore t M3 (19 :: H, o + 1, c) ∧ frK t M2 M3 := by
                  rcases hvo with h | h
                  · exfalso; omega
                  · exact h.2
                have hr2 := run_r (by unfold mst; rw [if_pos rfl, if_neg (by omega), if_neg n6, if_pos (by omega), if_neg ho5]) hr
                refine r_post (ih (w := true) (m := false) (l3 := l3) (lx2.fr f3) hc3 (hin.hold (by decide) ho5) (Or.inl ⟨by omega, rfl⟩) (Or.inr ⟨rfl, rfl⟩) hr2) ?_
                rintro _ M' _ ⟨v, rfl, h1, h2, h3, h4, rfl⟩
                exact ⟨v, rfl, h1, h2, h3, (e2.trans f3.e).trans h4, rfl⟩
              · refine r_run 1 (pc' := 118) (ls' := [some (yr 75), some (yi x), some (yi y), l3]) (st' := [yi 0]) (M' := M3) (N' := N) rfl ?_
                refine r_zret m_131 rfl f_131_118 (by omega) ?_
                have hw : w = true := by
                  rcases hx with h | h
                  · exact h.2
                  · exfalso; omega
                subst hw
                have n6 : ¬ (tkK T n i = 6 ∧ m = true) := fun h => by have := h.1; omega
                obtain ⟨ho5, hM3⟩ : o = 5 ∧ M2 = M3 := by
                  rcases hvo with h | h
                  · exact h.2
                  · exfalso; omega
                subst hM3
                have hq : q = (false, i, c) := run_l (by unfold mst; rw [if_pos rfl, if_neg (by omega), if_neg n6, if_pos (by omega), if_pos ho5]) hr
                rw [hq]
                exact ⟨0, rfl, Or.inr ⟨rfl, rfl⟩, b2, lx2, e2, rfl⟩
          · refine r_run 1 (pc' := 85) (ls' := [some (yr 75), some (yi x), some (yi y), l3]) (st' := [yi y]) (M' := M2) (N' := N) rfl ?_
            refine r_if_eq (pc := 85) f_131_85 (by omega) (fun h85 => ?_) (fun h85 => ?_)
            · refine r_run 3 (pc' := 105) (ls' := [some (yr 75), some (yi x), some (yi y), l3]) (st' := [yi 45, yi (M2 75 23)]) (M' := M2) (N' := N) rfl ?_
              refine r_icmp_ne (pc := 105) f_131_105 (by have := tkK_in htp i; omega) (by omega) (fun h105 => ?_) (fun h105 => ?_)
              · refine r_run 3 (pc' := 130) (ls' := [some (yr 75), some (yi x), some (yi y), l3]) (st' := [yi 40, yi (M2 75 23)]) (M' := M2) (N' := N) rfl ?_
                refine r_icmp_ne (pc := 130) f_131_130 (by have := tkK_in htp i; omega) (by omega) (fun h130 => ?_) (fun h130 => ?_)
                · refine r_run 1 (pc' := 149) (ls' := [some (yr 75), some (yi x), some (yi y), l3]) (st' := [yi 0]) (M' := M2) (N' := N) rfl ?_
                  refine r_zret m_131 rfl f_131_149 (by omega) ?_
                  have hw : w = true := by
                    rcases hx with h | h
                    · exact h.2
                    · exfalso; omega
                  subst hw
                  have n6 : ¬ (tkK T n i = 6 ∧ m = true) := fun h => by
                    rcases hy with g | g
                    · omega
                    · rw [g.2] at h; exact absurd h.2 (by decide)
                  have hq : q = (false, i, c) := run_l (by unfold mst; rw [if_pos rfl, if_neg (by omega), if_neg n6, if_neg (by omega), if_neg (by omega)]) hr
                  rw [hq]
                  exact ⟨0, rfl, Or.inr ⟨rfl, rfl⟩, b2, lx2, e2, rfl⟩
                · have i160 := (tk_ok htp).1 i (by omega)
                  refine r_run 2 (pc' := 135) (ls' := [some (yr 75), some (yi x), some (yi y), l3]) (st' := [yi 0, yr 75]) (M' := M2) (N' := N) rfl ?_
                  refine r_virtual (mj := 128) (b := 75) (as := [yi 0]) (rest := []) f_131_135 (by decide) rfl m_128 (by decide) (by decide) (by decide) rfl rfl (Nat.le_of_ble_eq_true rfl) (by omega) (m_opensOneX hc2 hin i160) ?_
                  rintro _ M3 _ ⟨vo, rfl, hvo, rfl⟩
                  have wo : vo = 0 ∨ vo = 1 := by rcases hvo with h | h; exact Or.inl h.1; exact Or.inr h.1
                  refine r_if_ne (pc := 138) f_131_138 (by omega) (fun h138 => ?_) (fun h138 => ?_)
                  · refine r_run 3 (pc' := 14) (ls' := [some (yr 75), some (yi x), some (yi 1), l3]) (st' := []) (M' := M3) (N' := N) rfl ?_
                    have hw : w = true := by
                      rcases hx with h | h
                      · exact h.2
                      · exfalso; omega
                    subst hw
                    have n6 : ¬ (tkK T n i = 6 ∧ m = true) := fun h => by
                      rcases hy with g | g
                      · omega
                      · rw [g.2] at h; exact absurd h.2 (by decide)
                    obtain ⟨ho5, hc3, f3⟩ : o ≠ 5 ∧ mCore t M3 (0 :: H, o + 1, c) ∧ frK t M2 M3 := by
                      rcases hvo with h | h
                      · exfalso; omega
                      · exact h.2
                    have hr2 := run_r (by unfold mst; rw [if_pos rfl, if_neg (by omega), if_neg n6, if_neg (by omega), if_pos (by omega), if_neg ho5]) hr
                    refine r_post (ih (w := true) (m := true) (l3 := l3) (lx2.fr f3) hc3 (hin.hold (by decide) ho5) (Or.inl ⟨by omega, rfl⟩) (Or.inl ⟨rfl, rfl⟩) hr2) ?_
                    rintro _ M' _ ⟨v, rfl, h1, h2, h3, h4, rfl⟩
                    exact ⟨v, rfl, h1, h2, h3, (e2.trans f3.e).trans h4, rfl⟩
                  · refine r_run 1 (pc' := 142) (ls' := [some (yr 75), some (yi x), some (yi y), l3]) (st' := [yi 0]) (M' := M3) (N' := N) rfl ?_
                    refine r_zret m_131 rfl f_131_142 (by omega) ?_
                    have hw : w = true := by
                      rcases hx with h | h
                      · exact h.2
                      · exfalso; omega
                    subst hw
                    have n6 : ¬ (tkK T n i = 6 ∧ m = true) := fun h => by
                      rcases hy with g | g
                      · omega
                      · rw [g.2] at h; exact absurd h.2 (by decide)
                    obtain ⟨ho5, hM3⟩ : o = 5 ∧ M2 = M3 := by
                      rcases hvo with h | h
                      · exact h.2
                      · exfalso; omega
                    subst hM3
                    have hq : q = (false, i, c) := run_l (by unfold mst; rw [if_pos rfl, if_neg (by omega), if_neg n6, if_neg (by omega), if_pos (by omega), if_pos ho5]) hr
                    rw [hq]
                    exact ⟨0, rfl, Or.inr ⟨rfl, rfl⟩, b2, lx2, e2, rfl⟩
              · have i160 := (tk_ok htp).1 i (by omega)
                refine r_run 2 (pc' := 111) (ls' := [some (yr 75), some (yi x), some (yi y), l3]) (st' := [yi 19, yr 75]) (M' := M2) (N' := N) rfl ?_
                refine r_virtual (mj := 128) (b := 75) (as := [yi 19]) (rest := []) f_131_111 (by decide) rfl m_128 (by decide) (by decide) (by decide) rfl rfl (Nat.le_of_ble_eq_true rfl) (by omega) (m_opensOneX hc2 hin i160) ?_
                rintro _ M3 _ ⟨vo, rfl, hvo, rfl⟩
                have wo : vo = 0 ∨ vo = 1 := by rcases hvo with h | h; exact Or.inl h.1; exact Or.inr h.1
                refine r_if_ne (pc := 114) f_131_114 (by omega) (fun h114 => ?_) (fun h114 => ?_)
                · refine r_run 3 (pc' := 14) (ls' := [some (yr 75), some (yi x), some (yi 0), l3]) (st' := []) (M' := M3) (N' := N) rfl ?_
                  have hw : w = true := by
                    rcases hx with h | h
                    · exact h.2
                    · exfalso; omega
                  subst hw
                  have n6 : ¬ (tkK T n i = 6 ∧ m = true) := fun h => by
                    rcases hy with g | g
                    · omega
                    · rw [g.2] at h; exact absurd h.2 (by decide)
                  obtain ⟨ho5, hc3, f3⟩ : o ≠ 5 ∧ mCore t M3 (19 :: H, o + 1, c) ∧ frK t M2 M3 := by
                    rcases hvo with h | h
                    · exfalso; omega
                    · exact h.2
                  have hr2 := run_r (by unfold mst; rw [if_pos rfl, if_neg (by omega), if_neg n6, if_pos (by omega), if_neg ho5]) hr
                  refine r_post (ih (w := true) (m := false) (l3 := l3) (lx2.fr f3) hc3 (hin.hold (by decide) ho5) (Or.inl ⟨by omega, rfl⟩) (Or.inr ⟨rfl, rfl⟩) hr2) ?_
                  rintro _ M' _ ⟨v, rfl, h1, h2, h3, h4, rfl⟩
                  exact ⟨v, rfl, h1, h2, h3, (e2.trans f3.e).trans h4, rfl⟩
                · refine r_run 1 (pc' := 118) (ls' := [some (yr 75), some (yi x), some (yi y), l3]) (st' := [yi 0]) (M' := M3) (N' := N) rfl ?_
                  refine r_zret m_131 rfl f_131_118 (by omega) ?_
                  have hw : w = true := by
                    rcases hx with h | h
                    · exact h.2
                    · exfalso; omega
                  subst hw
                  have n6 : ¬ (tkK T n i = 6 ∧ m = true) := fun h => by
                    rcases hy with g | g
                    · omega
                    · rw [g.2] at h; exact absurd h.2 (by decide)
                  obtain ⟨ho5, hM3⟩ : o = 5 ∧ M2 = M3 := by
                    rcases hvo with h | h
                    · exact h.2
                    · exfalso; omega
                  subst hM3
                  have hq : q = (false, i, c) := run_l (by unfold mst; rw [if_pos rfl, if_neg (by omega), if_neg n6, if_pos (by omega), if_pos ho5]) hr
                  rw [hq]
                  exact ⟨0, rfl, Or.inr ⟨rfl, rfl⟩, b2, lx2, e2, rfl⟩
            · have i160 := (tk_ok htp).1 i (by omega)
              refine r_run 2 (pc' := 91) (ls' := [some (yr 75), some (yi x), some (yi y), l3]) (st' := [yi 13, yr 75]) (M' := M2) (N' := N) rfl ?_
              refine r_virtual (mj := 128) (b := 75) (as := [yi 13]) (rest := []) f_131_91 (by decide) rfl m_128 (by decide) (by decide) (by decide) rfl rfl (Nat.le_of_ble_eq_true rfl) (by omega) (m_opensOneX hc2 hin i160) ?_
              rintro _ M3 _ ⟨vo, rfl, hvo, rfl⟩
              have wo : vo = 0 ∨ vo = 1 := by rcases hvo with h | h; exact Or.inl h.1; exact Or.inr h.1
              refine r_if_ne (pc := 94) f_131_94 (by omega) (fun h94 => ?_) (fun h94 => ?_)
              · have hw : w = true := by
                  rcases hx with h | h
                  · exact h.2
                  · exfalso; omega
                subst hw
                have hm : m = true := by
                  rcases hy with g | g
                  · exact g.2
                  · exfalso; omega
                obtain ⟨ho5, hc3, f3⟩ : o ≠ 5 ∧ mCore t M3 (13 :: H, o + 1, c) ∧ frK t M2 M3 := by
                  rcases hvo with h | h
                  · exfalso; omega
                  · exact h.2
                have hr2 := run_r (by unfold mst; rw [if_pos rfl, if_neg (by omega), if_pos ⟨by omega, hm⟩, if_neg ho5]) hr
                refine r_post (ih (w := true) (m := m) (l3 := l3) (lx2.fr f3) hc3 (hin.hold (by decide) ho5) (Or.inl ⟨by omega, rfl⟩) hy hr2) ?_
                rintro _ M' _ ⟨v, rfl, h1, h2, h3, h4, rfl⟩
                exact ⟨v, rfl, h1, h2, h3, (e2.trans f3.e).trans h4, rfl⟩
              · refine r_run 1 (pc' := 98) (ls' := [some (yr 75), some (yi x), some (yi y), l3]) (st' := [yi 0]) (M' := M3) (N' := N) rfl ?_
                refine r_zret m_131 rfl f_131_98 (by omega) ?_
                have hw : w = true := by
                  rcases hx with h | h
                  · exact h.2
                  · exfalso; omega
                subst hw
                have hm : m = true := by
                  rcases hy with g | g
                  · exact g.2
                  · exfalso; omega
                obtain ⟨ho5, hM3⟩ : o = 5 ∧ M2 = M3 := by
                  rcases hvo with h | h
                  · exact h.2
                  · exfalso; omega
                subst hM3
                have hq : q = (false, i, c) := run_l (by unfold mst; rw [if_pos rfl, if_neg (by omega), if_pos ⟨by omega, hm⟩, if_pos ho5]) hr
                rw [hq]
                exact ⟨0, rfl, Or.inr ⟨rfl, rfl⟩, b2, lx2, e2, rfl⟩
        · refine r_run 4 (pc' := 44) (ls' := [some (yr 75), some (yi x), some (yi y), l3]) (st' := [yi 1, yi (M2 75 23), yr 75]) (M' := M2) (N' := N) rfl ?_
          refine r_icmp_ne (pc := 44) f_131_44 (by have := tkK_in htp i; omega) (by omega) (fun h44 => ?_) (fun h44 => ?_)
          · refine r_run 2 (pc' := 61) (ls' := [some (yr 75), some (yi x), some (yi y), l3]) (st' := [yi (M2 75 24), yr 75]) (M' := M2) (N' := N) rfl ?_
            have e6 : M2 75 24 = tkV T n i := by
              rw [v2 (by omega)]; unfold tkV; rw [if_neg (by omega), if_pos (by omega)]
            rw [e6]
            have i160 := (tk_ok htp).1 i (by omega)
            have hin3 := hin.val (x := tkV T n i)
            refine r_virtual (mj := 125) (b := 75) (as := [yi (tkV T n i)]) (rest := []) f_131_61 (by decide) rfl m_125 (by decide) (by decide) (by decide) rfl rfl (Nat.le_of_ble_eq_true rfl) (by omega) (m_putsX ht hc2 (by omega)) ?_
            rintro _ M3 _ ⟨rfl, ⟨hc3, f3⟩, rfl⟩
            refine r_run 2 (pc' := 67) (ls' := [some (yr 75), some (yi x), some (yi y), l3]) (st' := [yi 7, yr 75]) (M' := M3) (N' := N) rfl ?_
            refine r_virtual (mj := 126) (b := 75) (as := [yi 7]) (rest := []) f_131_67 (by decide) rfl m_126 (by decide) (by decide) (by decide) rfl rfl (Nat.le_of_ble_eq_true rfl) (by omega) (m_unwX (l := 7) ht (by decide) (by omega) hc3 hin3) ?_
            rintro _ M4 _ ⟨rfl, ⟨hc4, hin4, f4⟩, rfl⟩
            refine r_run 3 (pc' := 14) (ls' := [some (yr 75), some (yi 0), some (yi y), l3]) (st' := []) (M' := M4) (N' := N) rfl ?_
            have hw : w = true := by
              rcases hx with h | h
              · exact h.2
              · exfalso; omega
            subst hw
            have hr2 := run_r (by unfold mst; rw [if_pos rfl, if_pos (by omega)]) hr
            refine r_post (ih (w := false) (m := m) (l3 := l3) (lx2.fr (f3.trans f4)) hc4 hin4 (Or.inr ⟨rfl, rfl⟩) hy hr2) ?_
            rintro _ M' _ ⟨v, rfl, h1, h2, h3, h4, rfl⟩
            exact ⟨v, rfl, h1, h2, h3, (e2.trans (f3.trans f4).e).trans h4, rfl⟩
          · refine r_run 5 (pc' := 61) (ls' := [some (yr 75), some (yi x), some (yi y), l3]) (st' := [yi (100000 + (M2 75 24)), yr 75]) (M' := M2) (N' := N) rfl ?_
            have e6 : 100000 + (M2 75 24) = tkV T n i := by exfalso; omega
            rw [e6]
            have i160 : i < 160 := by exfalso; omega
            have hin3 := hin.val (x := tkV T n i)
            refine r_virtual (mj := 125) (b := 75) (as := [yi (tkV T n i)]) (rest := []) f_131_61 (by decide) rfl m_125 (by decide) (by decide) (by decide) rfl rfl (Nat.le_of_ble_eq_true rfl) (by omega) (m_putsX ht hc2 (by omega)) ?_
            rintro _ M3 _ ⟨rfl, ⟨hc3, f3⟩, rfl⟩
            refine r_run 2 (pc' := 67) (ls' := [some (yr 75), some (yi x), some (yi y), l3]) (st' := [yi 7, yr 75]) (M' := M3) (N' := N) rfl ?_
            refine r_virtual (mj := 126) (b := 75) (as := [yi 7]) (rest := []) f_131_67 (by decide) rfl m_126 (by decide) (by decide) (by decide) rfl rfl (Nat.le_of_ble_eq_true rfl) (by omega) (m_unwX (l := 7) ht (by decide) (by omega) hc3 hin3) ?_
            rintro _ M4 _ ⟨rfl, ⟨hc4, hin4, f4⟩, rfl⟩
            refine r_run 3 (pc' := 14) (ls' := [some (yr 75), some (yi 0), some (yi y), l3]) (st' := []) (M' := M4) (N' := N) rfl ?_
            exfalso; omega
