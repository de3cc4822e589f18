theorem isA_end {S : XS} {d : Nat} {M N : YM} {b w i : Int} (hw : 0 ≤ w ∧ w ≤ 6) (hi : 0 ≤ i ∧ i + 0 ≤ 6) : ry S d 26 7 [some (yr b), some (yi w), some (yi (-1)), some (yi i)] [] M N (fun r M' N' => ∃ v : Int, some (yi v) = r ∧ ((v = 1 ∧ (w < 0 ∧ 0 < w)) ∨ (v = 0 ∧ ¬ (w < 0 ∧ 0 < w))) ∧ M = M' ∧ N = N') := by
  refine r_run 2 (pc' := 10) (ls' := [some (yr b), some (yi w), some (yi (-1 : Int)), some (yi i)]) (st' := [yi 6, yi i]) (M' := M) (N' := N) rfl ?_
  refine r_icmp_ge (pc := 10) f_26_10 (by omega) (by omega) (fun h10 => ?_) (fun h10 => ?_)
  · refine r_run 1 (pc' := 38) (ls' := [some (yr b), some (yi w), some (yi (-1 : Int)), some (yi i)]) (st' := [yi 0]) (M' := M) (N' := N) rfl ?_
    refine r_zret m_26 rfl f_26_38 (by omega) ?_
    exact ⟨_, rfl, by omega, rfl, rfl⟩
  · refine r_run 2 (pc' := 15) (ls' := [some (yr b), some (yi w), some (yi (-1 : Int)), some (yi i)]) (st' := [yi (-1), yi (-1 : Int)]) (M' := M) (N' := N) rfl ?_
    refine r_icmp_eq (pc := 15) f_26_15 (by omega) (by omega) (fun h15 => ?_) (fun h15 => ?_)
    · refine r_run 1 (pc' := 38) (ls' := [some (yr b), some (yi w), some (yi (-1 : Int)), some (yi i)]) (st' := [yi 0]) (M' := M) (N' := N) rfl ?_
      refine r_zret m_26 rfl f_26_38 (by omega) ?_
      exact ⟨_, rfl, by omega, rfl, rfl⟩
    · omega
theorem isA_0 {S : XS} {d : Nat} {M N : YM} {b w i : Int} (hw : 0 ≤ w ∧ w ≤ 6) (hi : 0 ≤ i ∧ i + 1 ≤ 6) : ry S d 26 7 [some (yr b), some (yi w), some (yi (0)), some (yi i)] [] M N (fun r M' N' => ∃ v : Int, some (yi v) = r ∧ ((v = 1 ∧ (w = 0)) ∨ (v = 0 ∧ ¬ (w = 0))) ∧ M = M' ∧ N = N') := by
  refine r_run 2 (pc' := 10) (ls' := [some (yr b), some (yi w), some (yi (0 : Int)), some (yi i)]) (st' := [yi 6, yi i]) (M' := M) (N' := N) rfl ?_
  refine r_icmp_ge (pc := 10) f_26_10 (by omega) (by omega) (fun h10 => ?_) (fun h10 => ?_)
  · refine r_run 1 (pc' := 38) (ls' := [some (yr b), some (yi w), some (yi (0 : Int)), some (yi i)]) (st' := [yi 0]) (M' := M) (N' := N) rfl ?_
    refine r_zret m_26 rfl f_26_38 (by omega) ?_
    exact ⟨_, rfl, by omega, rfl, rfl⟩
  · refine r_run 2 (pc' := 15) (ls' := [some (yr b), some (yi w), some (yi (0 : Int)), some (yi i)]) (st' := [yi (-1), yi (0 : Int)]) (M' := M) (N' := N) rfl ?_
    refine r_icmp_eq (pc := 15) f_26_15 (by omega) (by omega) (fun h15 => ?_) (fun h15 => ?_)
    · refine r_run 1 (pc' := 38) (ls' := [some (yr b), some (yi w), some (yi (0 : Int)), some (yi i)]) (st' := [yi 0]) (M' := M) (N' := N) rfl ?_
      refine r_zret m_26 rfl f_26_38 (by omega) ?_
      exact ⟨_, rfl, by omega, rfl, rfl⟩
    · refine r_run 2 (pc' := 20) (ls' := [some (yr b), some (yi w), some (yi (0 : Int)), some (yi i)]) (st' := [yi w, yi (0 : Int)]) (M' := M) (N' := N) rfl ?_
      refine r_icmp_ne (pc := 20) f_26_20 (by omega) (by omega) (fun h20 => ?_) (fun h20 => ?_)
      · refine r_run 2 (pc' := 29) (ls' := [some (yr b), some (yi w), some (yi (0 : Int)), some (yi i)]) (st' := [yi (0 : Int), yr 30000]) (M' := M) (N' := N) rfl ?_
        refine r_iabove f_26_29 (by omega) ?_
        refine r_run 3 (pc' := 7) (ls' := [some (yr b), some (yi w), some (yi ((xabove.getD (0 : Int).toNat 0).toInt)), some (yi (i + 1))]) (st' := []) (M' := M) (N' := N) rfl ?_
        rw [show (xabove.getD (0 : Int).toNat 0).toInt = (-1) by decide]
        refine r_post (isA_end hw (by omega)) ?_
        rintro _ _ _ ⟨v, rfl, hv, rfl, rfl⟩
        exact ⟨v, rfl, by omega, rfl, rfl⟩
      · refine r_run 1 (pc' := 24) (ls' := [some (yr b), some (yi w), some (yi (0 : Int)), some (yi i)]) (st' := [yi 1]) (M' := M) (N' := N) rfl ?_
        refine r_zret m_26 rfl f_26_24 (by omega) ?_
        exact ⟨_, rfl, by omega, rfl, rfl⟩
theorem isA_1 {S : XS} {d : Nat} {M N : YM} {b w i : Int} (hw : 0 ≤ w ∧ w ≤ 6) (hi : 0 ≤ i ∧ i + 2 ≤ 6) : ry S d 26 7 [some (yr b), some (yi w), some (yi (1)), some (yi i)] [] M N (fun r M' N' => ∃ v : Int, some (yi v) = r ∧ ((v = 1 ∧ (w = 1 ∨ w = 0)) ∨ (v = 0 ∧ ¬ (w = 1 ∨ w = 0))) ∧ M = M' ∧ N = N') := by
  refine r_run 2 (pc' := 10) (ls' := [some (yr b), some (yi w), some (yi (1 : Int)), some (yi i)]) (st' := [yi 6, yi i]) (M' := M) (N' := N) rfl ?_
  refine r_icmp_ge (pc := 10) f_26_10 (by omega) (by omega) (fun h10 => ?_) (fun h10 => ?_)
  · refine r_run 1 (pc' := 38) (ls' := [some (yr b), some (yi w), some (yi (1 : Int)), some (yi i)]) (st' := [yi 0]) (M' := M) (N' := N) rfl ?_
    refine r_zret m_26 rfl f_26_38 (by omega) ?_
    exact ⟨_, rfl, by omega, rfl, rfl⟩
  · refine r_run 2 (pc' := 15) (ls' := [some (yr b), some (yi w), some (yi (1 : Int)), some (yi i)]) (st' := [yi (-1), yi (1 : Int)]) (M' := M) (N' := N) rfl ?_
    refine r_icmp_eq (pc := 15) f_26_15 (by omega) (by omega) (fun h15 => ?_) (fun h15 => ?_)
    · refine r_run 1 (pc' := 38) (ls' := [some (yr b), some (yi w), some (yi (1 : Int)), some (yi i)]) (st' := [yi 0]) (M' := M) (N' := N) rfl ?_
      refine r_zret m_26 rfl f_26_38 (by omega) ?_
      exact ⟨_, rfl, by omega, rfl, rfl⟩
    · refine r_run 2 (pc' := 20) (ls' := [some (yr b), some (yi w), some (yi (1 : Int)), some (yi i)]) (st' := [yi w, yi (1 : Int)]) (M' := M) (N' := N) rfl ?_
      refine r_icmp_ne (pc := 20) f_26_20 (by omega) (by omega) (fun h20 => ?_) (fun h20 => ?_)
      · refine r_run 2 (pc' := 29) (ls' := [some (yr b), some (yi w), some (yi (1 : Int)), some (yi i)]) (st' := [yi (1 : Int), yr 30000]) (M' := M) (N' := N) rfl ?_
        refine r_iabove f_26_29 (by omega) ?_
        refine r_run 3 (pc' := 7) (ls' := [some (yr b), some (yi w), some (yi ((xabove.getD (1 : Int).toNat 0).toInt)), some (yi (i + 1))]) (st' := []) (M' := M) (N' := N) rfl ?_
        rw [show (xabove.getD (1 : Int).toNat 0).toInt = 0 by decide]
        refine r_post (isA_0 hw (by omega)) ?_
        rintro _ _ _ ⟨v, rfl, hv, rfl, rfl⟩
        exact ⟨v, rfl, by omega, rfl, rfl⟩
      · refine r_run 1 (pc' := 24) (ls' := [some (yr b), some (yi w), some (yi (1 : Int)), some (yi i)]) (st' := [yi 1]) (M' := M) (N' := N) rfl ?_
        refine r_zret m_26 rfl f_26_24 (by omega) ?_
        exact ⟨_, rfl, by omega, rfl, rfl⟩
theorem isA_2 {S : XS} {d : Nat} {M N : YM} {b w i : Int} (hw : 0 ≤ w ∧ w ≤ 6) (hi : 0 ≤ i ∧ i + 2 ≤ 6) : ry S d 26 7 [some (yr b), some (yi w), some (yi (2)), some (yi i)] [] M N (fun r M' N' => ∃ v : Int, some (yi v) = r ∧ ((v = 1 ∧ (w = 2 ∨ w = 0)) ∨ (v = 0 ∧ ¬ (w = 2 ∨ w = 0))) ∧ M = M' ∧ N = N') := by
  refine r_run 2 (pc' := 10) (ls' := [some (yr b), some (yi w), some (yi (2 : Int)), some (yi i)]) (st' := [yi 6, yi i]) (M' := M) (N' := N) rfl ?_
  refine r_icmp_ge (pc := 10) f_26_10 (by omega) (by omega) (fun h10 => ?_) (fun h10 => ?_)
  · refine r_run 1 (pc' := 38) (ls' := [some (yr b), some (yi w), some (yi (2 : Int)), some (yi i)]) (st' := [yi 0]) (M' := M) (N' := N) rfl ?_
    refine r_zret m_26 rfl f_26_38 (by omega) ?_
    exact ⟨_, rfl, by omega, rfl, rfl⟩
  · refine r_run 2 (pc' := 15) (ls' := [some (yr b), some (yi w), some (yi (2 : Int)), some (yi i)]) (st' := [yi (-1), yi (2 : Int)]) (M' := M) (N' := N) rfl ?_
    refine r_icmp_eq (pc := 15) f_26_15 (by omega) (by omega) (fun h15 => ?_) (fun h15 => ?_)
    · refine r_run 1 (pc' := 38) (ls' := [some (yr b), some (yi w), some (yi (2 : Int)), some (yi i)]) (st' := [yi 0]) (M' := M) (N' := N) rfl ?_
      refine r_zret m_26 rfl f_26_38 (by omega) ?_
      exact ⟨_, rfl, by omega, rfl, rfl⟩
    · refine r_run 2 (pc' := 20) (ls' := [some (yr b), some (yi w), some (yi (2 : Int)), some (yi i)]) (st' := [yi w, yi (2 : Int)]) (M' := M) (N' := N) rfl ?_
      refine r_icmp_ne (pc := 20) f_26_20 (by omega) (by omega) (fun h20 => ?_) (fun h20 => ?_)
      · refine r_run 2 (pc' := 29) (ls' := [some (yr b), some (yi w), some (yi (2 : Int)), some (yi i)]) (st' := [yi (2 : Int), yr 30000]) (M' := M) (N' := N) rfl ?_
        refine r_iabove f_26_29 (by omega) ?_
        refine r_run 3 (pc' := 7) (ls' := [some (yr b), some (yi w), some (yi ((xabove.getD (2 : Int).toNat 0).toInt)), some (yi (i + 1))]) (st' := []) (M' := M) (N' := N) rfl ?_
        rw [show (xabove.getD (2 : Int).toNat 0).toInt = 0 by decide]
        refine r_post (isA_0 hw (by omega)) ?_
        rintro _ _ _ ⟨v, rfl, hv, rfl, rfl⟩
        exact ⟨v, rfl, by omega, rfl, rfl⟩
      · refine r_run 1 (pc' := 24) (ls' := [some (yr b), some (yi w), some (yi (2 : Int)), some (yi i)]) (st' := [yi 1]) (M' := M) (N' := N) rfl ?_
        refine r_zret m_26 rfl f_26_24 (by omega) ?_
        exact ⟨_, rfl, by omega, rfl, rfl⟩
theorem isA_5 {S : XS} {d : Nat} {M N : YM} {b w i : Int} (hw : 0 ≤ w ∧ w ≤ 6) (hi : 0 ≤ i ∧ i + 2 ≤ 6) : ry S d 26 7 [some (yr b), some (yi w), some (yi (5)), some (yi i)] [] M N (fun r M' N' => ∃ v : Int, some (yi v) = r ∧ ((v = 1 ∧ (w = 5 ∨ w = 0)) ∨ (v = 0 ∧ ¬ (w = 5 ∨ w = 0))) ∧ M = M' ∧ N = N') := by
  refine r_run 2 (pc' := 10) (ls' := [some (yr b), some (yi w), some (yi (5 : Int)), some (yi i)]) (st' := [yi 6, yi i]) (M' := M) (N' := N) rfl ?_
  refine r_icmp_ge (pc := 10) f_26_10 (by omega) (by omega) (fun h10 => ?_) (fun h10 => ?_)
  · refine r_run 1 (pc' := 38) (ls' := [some (yr b), some (yi w), some (yi (5 : Int)), some (yi i)]) (st' := [yi 0]) (M' := M) (N' := N) rfl ?_
    refine r_zret m_26 rfl f_26_38 (by omega) ?_
    exact ⟨_, rfl, by omega, rfl, rfl⟩
  · refine r_run 2 (pc' := 15) (ls' := [some (yr b), some (yi w), some (yi (5 : Int)), some (yi i)]) (st' := [yi (-1), yi (5 : Int)]) (M' := M) (N' := N) rfl ?_
    refine r_icmp_eq (pc := 15) f_26_15 (by omega) (by omega) (fun h15 => ?_) (fun h15 => ?_)
    · refine r_run 1 (pc' := 38) (ls' := [some (yr b), some (yi w), some (yi (5 : Int)), some (yi i)]) (st' := [yi 0]) (M' := M) (N' := N) rfl ?_
      refine r_zret m_26 rfl f_26_38 (by omega) ?_
      exact ⟨_, rfl, by omega, rfl, rfl⟩
    · refine r_run 2 (pc' := 20) (ls' := [some (yr b), some (yi w), some (yi (5 : Int)), some (yi i)]) (st' := [yi w, yi (5 : Int)]) (M' := M) (N' := N) rfl ?_
      refine r_icmp_ne (pc := 20) f_26_20 (by omega) (by omega) (fun h20 => ?_) (fun h20 => ?_)
      · refine r_run 2 (pc' := 29) (ls' := [some (yr b), some (yi w), some (yi (5 : Int)), some (yi i)]) (st' := [yi (5 : Int), yr 30000]) (M' := M) (N' := N) rfl ?_
        refine r_iabove f_26_29 (by omega) ?_
        refine r_run 3 (pc' := 7) (ls' := [some (yr b), some (yi w), some (yi ((xabove.getD (5 : Int).toNat 0).toInt)), some (yi (i + 1))]) (st' := []) (M' := M) (N' := N) rfl ?_
        rw [show (xabove.getD (5 : Int).toNat 0).toInt = 0 by decide]
        refine r_post (isA_0 hw (by omega)) ?_
        rintro _ _ _ ⟨v, rfl, hv, rfl, rfl⟩
        exact ⟨v, rfl, by omega, rfl, rfl⟩
      · refine r_run 1 (pc' := 24) (ls' := [some (yr b), some (yi w), some (yi (5 : Int)), some (yi i)]) (st' := [yi 1]) (M' := M) (N' := N) rfl ?_
        refine r_zret m_26 rfl f_26_24 (by omega) ?_
        exact ⟨_, rfl, by omega, rfl, rfl⟩
theorem isA_3 {S : XS} {d : Nat} {M N : YM} {b w i : Int} (hw : 0 ≤ w ∧ w ≤ 6) (hi : 0 ≤ i ∧ i + 3 ≤ 6) : ry S d 26 7 [some (yr b), some (yi w), some (yi (3)), some (yi i)] [] M N (fun r M' N' => ∃ v : Int, some (yi v) = r ∧ ((v = 1 ∧ (w = 3 ∨ w = 1 ∨ w = 0)) ∨ (v = 0 ∧ ¬ (w = 3 ∨ w = 1 ∨ w = 0))) ∧ M = M' ∧ N = N') := by
  refine r_run 2 (pc' := 10) (ls' := [some (yr b), some (yi w), some (yi (3 : Int)), some (yi i)]) (st' := [yi 6, yi i]) (M' := M) (N' := N) rfl ?_
  refine r_icmp_ge (pc := 10) f_26_10 (by omega) (by omega) (fun h10 => ?_) (fun h10 => ?_)
  · refine r_run 1 (pc' := 38) (ls' := [some (yr b), some (yi w), some (yi (3 : Int)), some (yi i)]) (st' := [yi 0]) (M' := M) (N' := N) rfl ?_
    refine r_zret m_26 rfl f_26_38 (by omega) ?_
    exact ⟨_, rfl, by omega, rfl, rfl⟩
  · refine r_run 2 (pc' := 15) (ls' := [some (yr b), some (yi w), some (yi (3 : Int)), some (yi i)]) (st' := [yi (-1), yi (3 : Int)]) (M' := M) (N' := N) rfl ?_
    refine r_icmp_eq (pc := 15) f_26_15 (by omega) (by omega) (fun h15 => ?_) (fun h15 => ?_)
    · refine r_run 1 (pc' := 38) (ls' := [some (yr b), some (yi w), some (yi (3 : Int)), some (yi i)]) (st' := [yi 0]) (M' := M) (N' := N) rfl ?_
      refine r_zret m_26 rfl f_26_38 (by omega) ?_
      exact ⟨_, rfl, by omega, rfl, rfl⟩
    · refine r_run 2 (pc' := 20) (ls' := [some (yr b), some (yi w), some (yi (3 : Int)), some (yi i)]) (st' := [yi w, yi (3 : Int)]) (M' := M) (N' := N) rfl ?_
      refine r_icmp_ne (pc := 20) f_26_20 (by omega) (by omega) (fun h20 => ?_) (fun h20 => ?_)
      · refine r_run 2 (pc' := 29) (ls' := [some (yr b), some (yi w), some (yi (3 : Int)), some (yi i)]) (st' := [yi (3 : Int), yr 30000]) (M' := M) (N' := N) rfl ?_
        refine r_iabove f_26_29 (by omega) ?_
        refine r_run 3 (pc' := 7) (ls' := [some (yr b), some (yi w), some (yi ((xabove.getD (3 : Int).toNat 0).toInt)), some (yi (i + 1))]) (st' := []) (M' := M) (N' := N) rfl ?_
        rw [show (xabove.getD (3 : Int).toNat 0).toInt = 1 by decide]
        refine r_post (isA_1 hw (by omega)) ?_
        rintro _ _ _ ⟨v, rfl, hv, rfl, rfl⟩
        exact ⟨v, rfl, by omega, rfl, rfl⟩
      · refine r_run 1 (pc' := 24) (ls' := [some (yr b), some (yi w), some (yi (3 : Int)), some (yi i)]) (st' := [yi 1]) (M' := M) (N' := N) rfl ?_
        refine r_zret m_26 rfl f_26_24 (by omega) ?_
        exact ⟨_, rfl, by omega, rfl, rfl⟩
theorem isA_4 {S : XS} {d : Nat} {M N : YM} {b w i : Int} (hw : 0 ≤ w ∧ w ≤ 6) (hi : 0 ≤ i ∧ i + 3 ≤ 6) : ry S d 26 7 [some (yr b), some (yi w), some (yi (4)), some (yi i)] [] M N (fun r M' N' => ∃ v : Int, some (yi v) = r ∧ ((v = 1 ∧ (w = 4 ∨ w = 2 ∨ w = 0)) ∨ (v = 0 ∧ ¬ (w = 4 ∨ w = 2 ∨ w = 0))) ∧ M = M' ∧ N = N') := by
  refine r_run 2 (pc' := 10) (ls' := [some (yr b), some (yi w), some (yi (4 : Int)), some (yi i)]) (st' := [yi 6, yi i]) (M' := M) (N' := N) rfl ?_
  refine r_icmp_ge (pc := 10) f_26_10 (by omega) (by omega) (fun h10 => ?_) (fun h10 => ?_)
  · refine r_run 1 (pc' := 38) (ls' := [some (yr b), some (yi w), some (yi (4 : Int)), some (yi i)]) (st' := [yi 0]) (M' := M) (N' := N) rfl ?_
    refine r_zret m_26 rfl f_26_38 (by omega) ?_
    exact ⟨_, rfl, by omega, rfl, rfl⟩
  · refine r_run 2 (pc' := 15) (ls' := [some (yr b), some (yi w), some (yi (4 : Int)), some (yi i)]) (st' := [yi (-1), yi (4 : Int)]) (M' := M) (N' := N) rfl ?_
    refine r_icmp_eq (pc := 15) f_26_15 (by omega) (by omega) (fun h15 => ?_) (fun h15 => ?_)
    · refine r_run 1 (pc' := 38) (ls' := [some (yr b), some (yi w), some (yi (4 : Int)), some (yi i)]) (st' := [yi 0]) (M' := M) (N' := N) rfl ?_
      refine r_zret m_26 rfl f_26_38 (by omega) ?_
      exact ⟨_, rfl, by omega, rfl, rfl⟩
    · refine r_run 2 (pc' := 20) (ls' := [some (yr b), some (yi w), some (yi (4 : Int)), some (yi i)]) (st' := [yi w, yi (4 : Int)]) (M' := M) (N' := N) rfl ?_
      refine r_icmp_ne (pc := 20) f_26_20 (by omega) (by omega) (fun h20 => ?_) (fun h20 => ?_)
      · refine r_run 2 (pc' := 29) (ls' := [some (yr b), some (yi w), some (yi (4 : Int)), some (yi i)]) (st' := [yi (4 : Int), yr 30000]) (M' := M) (N' := N) rfl ?_
        refine r_iabove f_26_29 (by omega) ?_
        refine r_run 3 (pc' := 7) (ls' := [some (yr b), some (yi w), some (yi ((xabove.getD (4 : Int).toNat 0).toInt)), some (yi (i + 1))]) (st' := []) (M' := M) (N' := N) rfl ?_
        rw [show (xabove.getD (4 : Int).toNat 0).toInt = 2 by decide]
        refine r_post (isA_2 hw (by omega)) ?_
        rintro _ _ _ ⟨v, rfl, hv, rfl, rfl⟩
        exact ⟨v, rfl, by omega, rfl, rfl⟩
      · refine r_run 1 (pc' := 24) (ls' := [some (yr b), some (yi w), some (yi (4 : Int)), some (yi i)]) (st' := [yi 1]) (M' := M) (N' := N) rfl ?_
        refine r_zret m_26 rfl f_26_24 (by omega) ?_
        exact ⟨_, rfl, by omega, rfl, rfl⟩
theorem c_isA {S : XS} {M N : YM} {b w : Int} (hb : 0 ≤ b ∧ b < 94) (hk : yk b = (202, 5)) (hz : 0 ≤ M b 0 ∧ M b 0 ≤ 5) (hw : 0 ≤ w ∧ w ≤ 6) : rm S 0 26 [yr b, yi w] M N (fun r M' N' => ∃ v : Int, some (yi v) = r ∧ ((v = 1 ∧ (w = 0 ∨ M b 0 = w ∨ (w = 1 ∧ M b 0 = 3) ∨ (w = 2 ∧ M b 0 = 4))) ∨ (v = 0 ∧ ¬ (w = 0 ∨ M b 0 = w ∨ (w = 1 ∧ M b 0 = 3) ∨ (w = 2 ∧ M b 0 = 4)))) ∧ M = M' ∧ N = N') := by
  refine ⟨xe_26, m_26, Nat.le_of_ble_eq_true rfl, ?_⟩
  refine r_run 1 (pc' := 1) (ls' := [some (yr b), some (yi w), none, none]) (st' := [yr b]) (M' := M) (N' := N) rfl ?_
  refine r_getf (n := 5) 0 rfl f_26_1 (by decide) (show xFT[12]? = some (2, 0) from rfl) (by decide) hb hk ?_
  refine r_run 3 (pc' := 7) (ls' := [some (yr b), some (yi w), some (yi (M b 0)), some (yi 0)]) (st' := []) (M' := M) (N' := N) rfl ?_
  rcases (show M b 0 = 0 ∨ M b 0 = 1 ∨ M b 0 = 2 ∨ M b 0 = 3 ∨ M b 0 = 4 ∨ M b 0 = 5 by omega) with h | h | h | h | h | h
  · rw [h]
    refine r_post (isA_0 hw (by omega)) ?_
    rintro _ _ _ ⟨v, rfl, hv, rfl, rfl⟩
    exact ⟨v, rfl, by omega, rfl, rfl⟩
  · rw [h]
    refine r_post (isA_1 hw (by omega)) ?_
    rintro _ _ _ ⟨v, rfl, hv, rfl, rfl⟩
    exact ⟨v, rfl, by omega, rfl, rfl⟩
  · rw [h]
    refine r_post (isA_2 hw (by omega)) ?_
    rintro _ _ _ ⟨v, rfl, hv, rfl, rfl⟩
    exact ⟨v, rfl, by omega, rfl, rfl⟩
  · rw [h]
    refine r_post (isA_3 hw (by omega)) ?_
    rintro _ _ _ ⟨v, rfl, hv, rfl, rfl⟩
    exact ⟨v, rfl, by omega, rfl, rfl⟩
  · rw [h]
    refine r_post (isA_4 hw (by omega)) ?_
    rintro _ _ _ ⟨v, rfl, hv, rfl, rfl⟩
    exact ⟨v, rfl, by omega, rfl, rfl⟩
  · rw [h]
    refine r_post (isA_5 hw (by omega)) ?_
    rintro _ _ _ ⟨v, rfl, hv, rfl, rfl⟩
    exact ⟨v, rfl, by omega, rfl, rfl⟩
theorem m_isUnder {S : XS} {M N : YM} {k w : Int} (hk : 0 ≤ k ∧ k ≤ 5) (hw : 0 ≤ w ∧ w ≤ 6) : rm S 0 190 [yi k, yi w] M N (fun r M' N' => ∃ v : Int, some (yi v) = r ∧ ((v = 1 ∧ (w = 0 ∨ k = w ∨ (w = 1 ∧ k = 3) ∨ (w = 2 ∧ k = 4))) ∨ (v = 0 ∧ ¬ (w = 0 ∨ k = w ∨ (w = 1 ∧ k = 3) ∨ (w = 2 ∧ k = 4)))) ∧ M = M' ∧ N = N') := by
  refine ⟨xe_190, m_190, Nat.le_of_ble_eq_true rfl, ?_⟩
  refine r_run 1 (pc' := 1) (ls' := [some (yi k), some (yi w)]) (st' := [yi w]) (M' := M) (N' := N) rfl ?_
  refine r_if_eq (pc := 1) f_190_1 (by omega) (fun h1 => ?_) (fun h1 => ?_)
  · refine r_run 2 (pc' := 34) (ls' := [some (yi k), some (yi w)]) (st' := [yi 1]) (M' := M) (N' := N) rfl ?_
    refine r_zret m_190 rfl f_190_34 (by omega) ?_
    exact ⟨_, rfl, by omega, rfl, rfl⟩
  · refine r_run 2 (pc' := 6) (ls' := [some (yi k), some (yi w)]) (st' := [yi w, yi k]) (M' := M) (N' := N) rfl ?_
    refine r_icmp_eq (pc := 6) f_190_6 (by omega) (by omega) (fun h6 => ?_) (fun h6 => ?_)
    · refine r_run 2 (pc' := 34) (ls' := [some (yi k), some (yi w)]) (st' := [yi 1]) (M' := M) (N' := N) rfl ?_
      refine r_zret m_190 rfl f_190_34 (by omega) ?_
      exact ⟨_, rfl, by omega, rfl, rfl⟩
    · refine r_run 2 (pc' := 11) (ls' := [some (yi k), some (yi w)]) (st' := [yi 1, yi w]) (M' := M) (N' := N) rfl ?_
      refine r_icmp_ne (pc := 11) f_190_11 (by omega) (by omega) (fun h11 => ?_) (fun h11 => ?_)
      · refine r_run 2 (pc' := 21) (ls' := [some (yi k), some (yi w)]) (st' := [yi 2, yi w]) (M' := M) (N' := N) rfl ?_
        refine r_icmp_ne (pc := 21) f_190_21 (by omega) (by omega) (fun h21 => ?_) (fun h21 => ?_)
        · refine r_run 1 (pc' := 34) (ls' := [some (yi k), some (yi w)]) (st' := [yi 0]) (M' := M) (N' := N) rfl ?_
          refine r_zret m_190 rfl f_190_34 (by omega) ?_
          exact ⟨_, rfl, by omega, rfl, rfl⟩
        · refine r_run 2 (pc' := 26) (ls' := [some (yi k), some (yi w)]) (st' := [yi 4, yi k]) (M' := M) (N' := N) rfl ?_
          refine r_icmp_ne (pc := 26) f_190_26 (by omega) (by omega) (fun h26 => ?_) (fun h26 => ?_)
          · refine r_run 1 (pc' := 34) (ls' := [some (yi k), some (yi w)]) (st' := [yi 0]) (M' := M) (N' := N) rfl ?_
            refine r_zret m_190 rfl f_190_34 (by omega) ?_
            exact ⟨_, rfl, by omega, rfl, rfl⟩
          · refine r_run 2 (pc' := 34) (ls' := [some (yi k), some (yi w)]) (st' := [yi 1]) (M' := M) (N' := N) rfl ?_
            refine r_zret m_190 rfl f_190_34 (by omega) ?_
            exact ⟨_, rfl, by omega, rfl, rfl⟩
      · refine r_run 2 (pc' := 16) (ls' := [some (yi k), some (yi w)]) (st' := [yi 3, yi k]) (M' := M) (N' := N) rfl ?_
        refine r_icmp_eq (pc := 16) f_190_16 (by omega) (by omega) (fun h16 => ?_) (fun h16 => ?_)
        · refine r_run 2 (pc' := 34) (ls' := [some (yi k), some (yi w)]) (st' := [yi 1]) (M' := M) (N' := N) rfl ?_
          refine r_zret m_190 rfl f_190_34 (by omega) ?_
          exact ⟨_, rfl, by omega, rfl, rfl⟩
        · refine r_run 2 (pc' := 21) (ls' := [some (yi k), some (yi w)]) (st' := [yi 2, yi w]) (M' := M) (N' := N) rfl ?_
          refine r_icmp_ne (pc := 21) f_190_21 (by omega) (by omega) (fun h21 => ?_) (fun h21 => ?_)
          · refine r_run 1 (pc' := 34) (ls' := [some (yi k), some (yi w)]) (st' := [yi 0]) (M' := M) (N' := N) rfl ?_
            refine r_zret m_190 rfl f_190_34 (by omega) ?_
            exact ⟨_, rfl, by omega, rfl, rfl⟩
          · refine r_run 2 (pc' := 26) (ls' := [some (yi k), some (yi w)]) (st' := [yi 4, yi k]) (M' := M) (N' := N) rfl ?_
            refine r_icmp_ne (pc := 26) f_190_26 (by omega) (by omega) (fun h26 => ?_) (fun h26 => ?_)
            · refine r_run 1 (pc' := 34) (ls' := [some (yi k), some (yi w)]) (st' := [yi 0]) (M' := M) (N' := N) rfl ?_
              refine r_zret m_190 rfl f_190_34 (by omega) ?_
              exact ⟨_, rfl, by omega, rfl, rfl⟩
            · refine r_run 2 (pc' := 34) (ls' := [some (yi k), some (yi w)]) (st' := [yi 1]) (M' := M) (N' := N) rfl ?_
              refine r_zret m_190 rfl f_190_34 (by omega) ?_
              exact ⟨_, rfl, by omega, rfl, rfl⟩
